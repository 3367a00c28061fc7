section
-- ===== PART A: goes FIRST, ahead of the names: the tables' words, and 'selects' of the private methods out of them =====
/-- a private method of a class that the tables say can be made, by its rows of tables_1 -/
def lw_okq (q : MethodName × Nat) : Prop := (q.1.cls ≠ "java/lang/invoke/MethodHandle" ∧ q.1.cls ≠ "java/lang/invoke/VarHandle") ∧ Cond.instantiable q.1.cls q.2 ∈ tables_1 ∧ Cond.privateMethod q.1 ∈ tables_1 ∧ Cond.instanceMethod q.1 ∈ tables_1
theorem lw_p0 : lw_okq (⟨"SevenKeys", "markPatchesNextTo", "(III)I"⟩, 5) := ⟨⟨by decide +kernel, by decide +kernel⟩, List.mem_of_getElem? (i := 7) (by decide +kernel), List.mem_of_getElem? (i := 136) (by decide +kernel), List.mem_of_getElem? (i := 137) (by decide +kernel)⟩
theorem lw_p1 : lw_okq (⟨"SevenKeys", "isMarked", "(I)Z"⟩, 5) := ⟨⟨by decide +kernel, by decide +kernel⟩, List.mem_of_getElem? (i := 7) (by decide +kernel), List.mem_of_getElem? (i := 140) (by decide +kernel), List.mem_of_getElem? (i := 141) (by decide +kernel)⟩
theorem lw_p2 : lw_okq (⟨"SevenKeys", "mark", "(II)V"⟩, 5) := ⟨⟨by decide +kernel, by decide +kernel⟩, List.mem_of_getElem? (i := 7) (by decide +kernel), List.mem_of_getElem? (i := 145) (by decide +kernel), List.mem_of_getElem? (i := 146) (by decide +kernel)⟩
theorem lw_p3 : lw_okq (⟨"SevenKeys", "place", "(IIZ)V"⟩, 5) := ⟨⟨by decide +kernel, by decide +kernel⟩, List.mem_of_getElem? (i := 7) (by decide +kernel), List.mem_of_getElem? (i := 160) (by decide +kernel), List.mem_of_getElem? (i := 161) (by decide +kernel)⟩
theorem lw_p4 : lw_okq (⟨"SevenKeys", "sizeOf", "(I)I"⟩, 5) := ⟨⟨by decide +kernel, by decide +kernel⟩, List.mem_of_getElem? (i := 7) (by decide +kernel), List.mem_of_getElem? (i := 164) (by decide +kernel), List.mem_of_getElem? (i := 165) (by decide +kernel)⟩
theorem lw_p5 : lw_okq (⟨"SevenKeys", "holds", "(II)Z"⟩, 5) := ⟨⟨by decide +kernel, by decide +kernel⟩, List.mem_of_getElem? (i := 7) (by decide +kernel), List.mem_of_getElem? (i := 168) (by decide +kernel), List.mem_of_getElem? (i := 169) (by decide +kernel)⟩
theorem lw_p6 : lw_okq (⟨"SevenKeys", "isOfOrNextTo", "(II)Z"⟩, 5) := ⟨⟨by decide +kernel, by decide +kernel⟩, List.mem_of_getElem? (i := 7) (by decide +kernel), List.mem_of_getElem? (i := 187) (by decide +kernel), List.mem_of_getElem? (i := 188) (by decide +kernel)⟩
theorem lw_p7 : lw_okq (⟨"SevenKeys", "countNeighbours", "(II)I"⟩, 5) := ⟨⟨by decide +kernel, by decide +kernel⟩, List.mem_of_getElem? (i := 7) (by decide +kernel), List.mem_of_getElem? (i := 191) (by decide +kernel), List.mem_of_getElem? (i := 192) (by decide +kernel)⟩
theorem lw_p8 : lw_okq (⟨"SevenKeys", "isDeepIn", "(II)Z"⟩, 5) := ⟨⟨by decide +kernel, by decide +kernel⟩, List.mem_of_getElem? (i := 7) (by decide +kernel), List.mem_of_getElem? (i := 195) (by decide +kernel), List.mem_of_getElem? (i := 196) (by decide +kernel)⟩
theorem lw_p9 : lw_okq (⟨"SevenKeys", "countPacked", "(I)I"⟩, 5) := ⟨⟨by decide +kernel, by decide +kernel⟩, List.mem_of_getElem? (i := 7) (by decide +kernel), List.mem_of_getElem? (i := 207) (by decide +kernel), List.mem_of_getElem? (i := 208) (by decide +kernel)⟩
theorem lw_p10 : lw_okq (⟨"SevenKeys", "packedLevel", "(II)I"⟩, 5) := ⟨⟨by decide +kernel, by decide +kernel⟩, List.mem_of_getElem? (i := 7) (by decide +kernel), List.mem_of_getElem? (i := 211) (by decide +kernel), List.mem_of_getElem? (i := 212) (by decide +kernel)⟩
theorem lw_p11 : lw_okq (⟨"SevenKeys", "patchLiesIn", "(III)Z"⟩, 5) := ⟨⟨by decide +kernel, by decide +kernel⟩, List.mem_of_getElem? (i := 7) (by decide +kernel), List.mem_of_getElem? (i := 215) (by decide +kernel), List.mem_of_getElem? (i := 216) (by decide +kernel)⟩
theorem lw_p12 : lw_okq (⟨"SevenKeys", "borderOf", "(I)I"⟩, 5) := ⟨⟨by decide +kernel, by decide +kernel⟩, List.mem_of_getElem? (i := 7) (by decide +kernel), List.mem_of_getElem? (i := 219) (by decide +kernel), List.mem_of_getElem? (i := 220) (by decide +kernel)⟩
theorem lw_p13 : lw_okq (⟨"SevenKeys", "countPieces", "(I)I"⟩, 5) := ⟨⟨by decide +kernel, by decide +kernel⟩, List.mem_of_getElem? (i := 7) (by decide +kernel), List.mem_of_getElem? (i := 223) (by decide +kernel), List.mem_of_getElem? (i := 224) (by decide +kernel)⟩
theorem lw_p14 : lw_okq (⟨"SevenKeys", "startsPiece", "(II)Z"⟩, 5) := ⟨⟨by decide +kernel, by decide +kernel⟩, List.mem_of_getElem? (i := 7) (by decide +kernel), List.mem_of_getElem? (i := 227) (by decide +kernel), List.mem_of_getElem? (i := 228) (by decide +kernel)⟩
theorem lw_p15 : lw_okq (⟨"SevenKeys", "flood", "(II)I"⟩, 5) := ⟨⟨by decide +kernel, by decide +kernel⟩, List.mem_of_getElem? (i := 7) (by decide +kernel), List.mem_of_getElem? (i := 231) (by decide +kernel), List.mem_of_getElem? (i := 232) (by decide +kernel)⟩
def lw_privs_1 : List (MethodName × Nat) := [(⟨"SevenKeys", "markPatchesNextTo", "(III)I"⟩, 5), (⟨"SevenKeys", "isMarked", "(I)Z"⟩, 5), (⟨"SevenKeys", "mark", "(II)V"⟩, 5), (⟨"SevenKeys", "place", "(IIZ)V"⟩, 5), (⟨"SevenKeys", "sizeOf", "(I)I"⟩, 5), (⟨"SevenKeys", "holds", "(II)Z"⟩, 5), (⟨"SevenKeys", "isOfOrNextTo", "(II)Z"⟩, 5), (⟨"SevenKeys", "countNeighbours", "(II)I"⟩, 5), (⟨"SevenKeys", "isDeepIn", "(II)Z"⟩, 5), (⟨"SevenKeys", "countPacked", "(I)I"⟩, 5), (⟨"SevenKeys", "packedLevel", "(II)I"⟩, 5), (⟨"SevenKeys", "patchLiesIn", "(III)Z"⟩, 5), (⟨"SevenKeys", "borderOf", "(I)I"⟩, 5), (⟨"SevenKeys", "countPieces", "(I)I"⟩, 5), (⟨"SevenKeys", "startsPiece", "(II)Z"⟩, 5), (⟨"SevenKeys", "flood", "(II)I"⟩, 5)]
theorem lw_r1 : ∀ q ∈ lw_privs_1, lw_okq q := List.forall_mem_cons.mpr ⟨lw_p0, List.forall_mem_cons.mpr ⟨lw_p1, List.forall_mem_cons.mpr ⟨lw_p2, List.forall_mem_cons.mpr ⟨lw_p3, List.forall_mem_cons.mpr ⟨lw_p4, List.forall_mem_cons.mpr ⟨lw_p5, List.forall_mem_cons.mpr ⟨lw_p6, List.forall_mem_cons.mpr ⟨lw_p7, List.forall_mem_cons.mpr ⟨lw_p8, List.forall_mem_cons.mpr ⟨lw_p9, List.forall_mem_cons.mpr ⟨lw_p10, List.forall_mem_cons.mpr ⟨lw_p11, List.forall_mem_cons.mpr ⟨lw_p12, List.forall_mem_cons.mpr ⟨lw_p13, List.forall_mem_cons.mpr ⟨lw_p14, List.forall_mem_cons.mpr ⟨lw_p15, fun _ h => absurd h List.not_mem_nil⟩⟩⟩⟩⟩⟩⟩⟩⟩⟩⟩⟩⟩⟩⟩⟩
theorem lw_p16 : lw_okq (⟨"SevenKeys", "enqueue", "(II)I"⟩, 5) := ⟨⟨by decide +kernel, by decide +kernel⟩, List.mem_of_getElem? (i := 7) (by decide +kernel), List.mem_of_getElem? (i := 235) (by decide +kernel), List.mem_of_getElem? (i := 236) (by decide +kernel)⟩
theorem lw_p17 : lw_okq (⟨"SevenKeys", "floodOn", "(III)I"⟩, 5) := ⟨⟨by decide +kernel, by decide +kernel⟩, List.mem_of_getElem? (i := 7) (by decide +kernel), List.mem_of_getElem? (i := 239) (by decide +kernel), List.mem_of_getElem? (i := 240) (by decide +kernel)⟩
theorem lw_p18 : lw_okq (⟨"SevenKeys", "greatestPiece", "(I)I"⟩, 5) := ⟨⟨by decide +kernel, by decide +kernel⟩, List.mem_of_getElem? (i := 7) (by decide +kernel), List.mem_of_getElem? (i := 243) (by decide +kernel), List.mem_of_getElem? (i := 244) (by decide +kernel)⟩
theorem lw_p19 : lw_okq (⟨"SevenKeys", "leastKey", "(I)I"⟩, 5) := ⟨⟨by decide +kernel, by decide +kernel⟩, List.mem_of_getElem? (i := 7) (by decide +kernel), List.mem_of_getElem? (i := 248) (by decide +kernel), List.mem_of_getElem? (i := 249) (by decide +kernel)⟩
theorem lw_p20 : lw_okq (⟨"SevenKeys", "greatestKey", "(I)I"⟩, 5) := ⟨⟨by decide +kernel, by decide +kernel⟩, List.mem_of_getElem? (i := 7) (by decide +kernel), List.mem_of_getElem? (i := 252) (by decide +kernel), List.mem_of_getElem? (i := 253) (by decide +kernel)⟩
theorem lw_p21 : lw_okq (⟨"SevenKeys", "packedKey", "(II)I"⟩, 5) := ⟨⟨by decide +kernel, by decide +kernel⟩, List.mem_of_getElem? (i := 7) (by decide +kernel), List.mem_of_getElem? (i := 260) (by decide +kernel), List.mem_of_getElem? (i := 261) (by decide +kernel)⟩
theorem lw_p22 : lw_okq (⟨"SevenKeys", "countHeldByAny", "()I"⟩, 5) := ⟨⟨by decide +kernel, by decide +kernel⟩, List.mem_of_getElem? (i := 7) (by decide +kernel), List.mem_of_getElem? (i := 291) (by decide +kernel), List.mem_of_getElem? (i := 292) (by decide +kernel)⟩
theorem lw_p23 : lw_okq (⟨"SevenKeys", "countPackedOfAll", "()I"⟩, 5) := ⟨⟨by decide +kernel, by decide +kernel⟩, List.mem_of_getElem? (i := 7) (by decide +kernel), List.mem_of_getElem? (i := 295) (by decide +kernel), List.mem_of_getElem? (i := 296) (by decide +kernel)⟩
theorem lw_p24 : lw_okq (⟨"SevenKeysModel", "keyAt", "(II)I"⟩, 15) := ⟨⟨by decide +kernel, by decide +kernel⟩, List.mem_of_getElem? (i := 299) (by decide +kernel), List.mem_of_getElem? (i := 372) (by decide +kernel), List.mem_of_getElem? (i := 373) (by decide +kernel)⟩
theorem lw_p25 : lw_okq (⟨"SevenKeysModel", "nextOf", "(II)I"⟩, 15) := ⟨⟨by decide +kernel, by decide +kernel⟩, List.mem_of_getElem? (i := 299) (by decide +kernel), List.mem_of_getElem? (i := 380) (by decide +kernel), List.mem_of_getElem? (i := 381) (by decide +kernel)⟩
theorem lw_p26 : lw_okq (⟨"SevenKeysModel", "farOf", "(II)I"⟩, 15) := ⟨⟨by decide +kernel, by decide +kernel⟩, List.mem_of_getElem? (i := 299) (by decide +kernel), List.mem_of_getElem? (i := 388) (by decide +kernel), List.mem_of_getElem? (i := 389) (by decide +kernel)⟩
theorem lw_p27 : lw_okq (⟨"SevenKeysModel", "many", "(I)I"⟩, 15) := ⟨⟨by decide +kernel, by decide +kernel⟩, List.mem_of_getElem? (i := 299) (by decide +kernel), List.mem_of_getElem? (i := 427) (by decide +kernel), List.mem_of_getElem? (i := 428) (by decide +kernel)⟩
theorem lw_p28 : lw_okq (⟨"SevenKeysModel", "isIn", "(II)Z"⟩, 15) := ⟨⟨by decide +kernel, by decide +kernel⟩, List.mem_of_getElem? (i := 299) (by decide +kernel), List.mem_of_getElem? (i := 431) (by decide +kernel), List.mem_of_getElem? (i := 432) (by decide +kernel)⟩
theorem lw_p29 : lw_okq (⟨"SevenKeysModel", "keep", "(I)I"⟩, 15) := ⟨⟨by decide +kernel, by decide +kernel⟩, List.mem_of_getElem? (i := 299) (by decide +kernel), List.mem_of_getElem? (i := 439) (by decide +kernel), List.mem_of_getElem? (i := 440) (by decide +kernel)⟩
theorem lw_p30 : lw_okq (⟨"SevenKeysModel", "nextIn", "(II)I"⟩, 15) := ⟨⟨by decide +kernel, by decide +kernel⟩, List.mem_of_getElem? (i := 299) (by decide +kernel), List.mem_of_getElem? (i := 451) (by decide +kernel), List.mem_of_getElem? (i := 452) (by decide +kernel)⟩
theorem lw_p31 : lw_okq (⟨"SevenKeysModel", "pack", "(I)V"⟩, 15) := ⟨⟨by decide +kernel, by decide +kernel⟩, List.mem_of_getElem? (i := 299) (by decide +kernel), List.mem_of_getElem? (i := 463) (by decide +kernel), List.mem_of_getElem? (i := 464) (by decide +kernel)⟩
def lw_privs_2 : List (MethodName × Nat) := [(⟨"SevenKeys", "enqueue", "(II)I"⟩, 5), (⟨"SevenKeys", "floodOn", "(III)I"⟩, 5), (⟨"SevenKeys", "greatestPiece", "(I)I"⟩, 5), (⟨"SevenKeys", "leastKey", "(I)I"⟩, 5), (⟨"SevenKeys", "greatestKey", "(I)I"⟩, 5), (⟨"SevenKeys", "packedKey", "(II)I"⟩, 5), (⟨"SevenKeys", "countHeldByAny", "()I"⟩, 5), (⟨"SevenKeys", "countPackedOfAll", "()I"⟩, 5), (⟨"SevenKeysModel", "keyAt", "(II)I"⟩, 15), (⟨"SevenKeysModel", "nextOf", "(II)I"⟩, 15), (⟨"SevenKeysModel", "farOf", "(II)I"⟩, 15), (⟨"SevenKeysModel", "many", "(I)I"⟩, 15), (⟨"SevenKeysModel", "isIn", "(II)Z"⟩, 15), (⟨"SevenKeysModel", "keep", "(I)I"⟩, 15), (⟨"SevenKeysModel", "nextIn", "(II)I"⟩, 15), (⟨"SevenKeysModel", "pack", "(I)V"⟩, 15)]
theorem lw_r2 : ∀ q ∈ lw_privs_2, lw_okq q := List.forall_mem_cons.mpr ⟨lw_p16, List.forall_mem_cons.mpr ⟨lw_p17, List.forall_mem_cons.mpr ⟨lw_p18, List.forall_mem_cons.mpr ⟨lw_p19, List.forall_mem_cons.mpr ⟨lw_p20, List.forall_mem_cons.mpr ⟨lw_p21, List.forall_mem_cons.mpr ⟨lw_p22, List.forall_mem_cons.mpr ⟨lw_p23, List.forall_mem_cons.mpr ⟨lw_p24, List.forall_mem_cons.mpr ⟨lw_p25, List.forall_mem_cons.mpr ⟨lw_p26, List.forall_mem_cons.mpr ⟨lw_p27, List.forall_mem_cons.mpr ⟨lw_p28, List.forall_mem_cons.mpr ⟨lw_p29, List.forall_mem_cons.mpr ⟨lw_p30, List.forall_mem_cons.mpr ⟨lw_p31, fun _ h => absurd h List.not_mem_nil⟩⟩⟩⟩⟩⟩⟩⟩⟩⟩⟩⟩⟩⟩⟩⟩
theorem lw_p32 : lw_okq (⟨"SevenKeysModel", "isWhole", "(III)Z"⟩, 15) := ⟨⟨by decide +kernel, by decide +kernel⟩, List.mem_of_getElem? (i := 299) (by decide +kernel), List.mem_of_getElem? (i := 467) (by decide +kernel), List.mem_of_getElem? (i := 468) (by decide +kernel)⟩
theorem lw_p33 : lw_okq (⟨"SevenKeysModel", "border", "(I)I"⟩, 15) := ⟨⟨by decide +kernel, by decide +kernel⟩, List.mem_of_getElem? (i := 299) (by decide +kernel), List.mem_of_getElem? (i := 471) (by decide +kernel), List.mem_of_getElem? (i := 472) (by decide +kernel)⟩
theorem lw_p34 : lw_okq (⟨"SevenKeysModel", "layPieces", "(I)I"⟩, 15) := ⟨⟨by decide +kernel, by decide +kernel⟩, List.mem_of_getElem? (i := 299) (by decide +kernel), List.mem_of_getElem? (i := 475) (by decide +kernel), List.mem_of_getElem? (i := 476) (by decide +kernel)⟩
theorem lw_p35 : lw_okq (⟨"SevenKeysModel", "clearPieces", "()V"⟩, 15) := ⟨⟨by decide +kernel, by decide +kernel⟩, List.mem_of_getElem? (i := 299) (by decide +kernel), List.mem_of_getElem? (i := 479) (by decide +kernel), List.mem_of_getElem? (i := 480) (by decide +kernel)⟩
theorem lw_p36 : lw_okq (⟨"SevenKeysModel", "spread", "(III)I"⟩, 15) := ⟨⟨by decide +kernel, by decide +kernel⟩, List.mem_of_getElem? (i := 299) (by decide +kernel), List.mem_of_getElem? (i := 483) (by decide +kernel), List.mem_of_getElem? (i := 484) (by decide +kernel)⟩
theorem lw_p37 : lw_okq (⟨"SevenKeysModel", "endOf", "(IZ)I"⟩, 15) := ⟨⟨by decide +kernel, by decide +kernel⟩, List.mem_of_getElem? (i := 299) (by decide +kernel), List.mem_of_getElem? (i := 487) (by decide +kernel), List.mem_of_getElem? (i := 488) (by decide +kernel)⟩
theorem lw_p38 : lw_okq (⟨"SevenKeysModel", "copy", "(II)V"⟩, 15) := ⟨⟨by decide +kernel, by decide +kernel⟩, List.mem_of_getElem? (i := 299) (by decide +kernel), List.mem_of_getElem? (i := 511) (by decide +kernel), List.mem_of_getElem? (i := 512) (by decide +kernel)⟩
theorem lw_p39 : lw_okq (⟨"SevenKeysModel", "all", "()I"⟩, 15) := ⟨⟨by decide +kernel, by decide +kernel⟩, List.mem_of_getElem? (i := 299) (by decide +kernel), List.mem_of_getElem? (i := 523) (by decide +kernel), List.mem_of_getElem? (i := 524) (by decide +kernel)⟩
theorem lw_p40 : lw_okq (⟨"SevenKeysModel", "allPacked", "()I"⟩, 15) := ⟨⟨by decide +kernel, by decide +kernel⟩, List.mem_of_getElem? (i := 299) (by decide +kernel), List.mem_of_getElem? (i := 527) (by decide +kernel), List.mem_of_getElem? (i := 528) (by decide +kernel)⟩
def lw_privs_3 : List (MethodName × Nat) := [(⟨"SevenKeysModel", "isWhole", "(III)Z"⟩, 15), (⟨"SevenKeysModel", "border", "(I)I"⟩, 15), (⟨"SevenKeysModel", "layPieces", "(I)I"⟩, 15), (⟨"SevenKeysModel", "clearPieces", "()V"⟩, 15), (⟨"SevenKeysModel", "spread", "(III)I"⟩, 15), (⟨"SevenKeysModel", "endOf", "(IZ)I"⟩, 15), (⟨"SevenKeysModel", "copy", "(II)V"⟩, 15), (⟨"SevenKeysModel", "all", "()I"⟩, 15), (⟨"SevenKeysModel", "allPacked", "()I"⟩, 15)]
theorem lw_r3 : ∀ q ∈ lw_privs_3, lw_okq q := List.forall_mem_cons.mpr ⟨lw_p32, List.forall_mem_cons.mpr ⟨lw_p33, List.forall_mem_cons.mpr ⟨lw_p34, List.forall_mem_cons.mpr ⟨lw_p35, List.forall_mem_cons.mpr ⟨lw_p36, List.forall_mem_cons.mpr ⟨lw_p37, List.forall_mem_cons.mpr ⟨lw_p38, List.forall_mem_cons.mpr ⟨lw_p39, List.forall_mem_cons.mpr ⟨lw_p40, fun _ h => absurd h List.not_mem_nil⟩⟩⟩⟩⟩⟩⟩⟩⟩
def lw_privs : List (MethodName × Nat) := lw_privs_1 ++ (lw_privs_2 ++ (lw_privs_3))
def lw_tbl : List Cond := k2_sels lw_privs ++ tables_1
theorem lw_privs_ok : ∀ q ∈ lw_privs, lw_okq q := by
  show ∀ q ∈ lw_privs_1 ++ (lw_privs_2 ++ (lw_privs_3)), lw_okq q
  exact List.forall_mem_append.mpr ⟨lw_r1, List.forall_mem_append.mpr ⟨lw_r2, lw_r3⟩⟩
end
section
/-! ===== BEGIN words of one list among another's, by their places ===== -/
theorem goodIn_r {big : List Cond} (ws : List Cond) (ps : List Nat) (hp : ws = ps.filterMap (fun i => big[i]?)) (h : ws.all goodWord = true) : GoodIn big ws := by
  intro w hw
  have h1 := List.all_eq_true.mp h w hw
  rw [hp] at hw
  obtain ⟨i, -, hi⟩ := List.mem_filterMap.mp hw
  have hm : w ∈ big := by first | exact List.mem_of_getElem? hi | exact List.getElem?_mem hi
  exact ⟨hm, good_of_word h1⟩
theorem goodIn_app {big a b : List Cond} (ha : GoodIn big a) (hb : GoodIn big b) : GoodIn big (a ++ b) := fun w h => (List.mem_append.mp h).elim (ha w) (hb w)
theorem goodIn_ca {big a b : List Cond} {c : Cond} (ha : GoodIn big (c :: a)) (hb : GoodIn big b) : GoodIn big (c :: (a ++ b)) := fun w h => (List.mem_cons.mp h).elim (fun e => ha w (List.mem_cons.mpr (Or.inl e))) (fun h => (List.mem_append.mp h).elim (fun h => ha w (List.mem_cons.mpr (Or.inr h))) (hb w))
theorem goodIn_sub {big ws : List Cond} (hm : ∀ w ∈ ws, w ∈ big) (h : ws.all goodWord = true) : GoodIn big ws := fun w hw => ⟨hm w hw, good_of_word (List.all_eq_true.mp h w hw)⟩
/-! ===== END ===== -/

/-! ===== BEGIN printed: names, fields, word lists, decode rows ===== -/
def RX0 : String := "SevenKeys$Sheet"
def TX0 : u_T := fun k => match k with
  | 0 => ("SevenKeys$Sheet", "cells", "[I", true)
  | _ => ("SevenKeys$Sheet", "keys", "[I", true)
def tyX0 : Nat → FieldType := fun k => match k with
  | 0 => .array .int
  | _ => .array .int
abbrev wsX00 : List Cond := u_ws RX0 TX0 2
theorem nmX0 : ∀ a, a < 2 → ∀ b, b < 2 → a ≠ b → (TX0 a).2.1 ≠ (TX0 b).2.1 := by decide +kernel
theorem tyX0_ok : ∀ k, k < 2 → parseFieldDescriptor (TX0 k).2.2.1 = some (tyX0 k) := by decide +kernel
abbrev cX0_init : ByteArray := prog_2_method_1_code
def yX0_init : MethodName := ⟨RX0, "<init>", "()V"⟩
abbrev cX0_cellByFigures : ByteArray := prog_2_method_2_code
def yX0_cellByFigures : MethodName := ⟨RX0, "cellByFigures", "(I)I"⟩
abbrev cX0_cellAt : ByteArray := prog_2_method_3_code
def yX0_cellAt : MethodName := ⟨RX0, "cellAt", "(II)I"⟩
abbrev cX0_pointA : ByteArray := prog_2_method_4_code
def yX0_pointA : MethodName := ⟨RX0, "pointA", "(I)I"⟩
abbrev cX0_pointB : ByteArray := prog_2_method_5_code
def yX0_pointB : MethodName := ⟨RX0, "pointB", "(I)I"⟩
abbrev cX0_keyOf : ByteArray := prog_2_method_6_code
def yX0_keyOf : MethodName := ⟨RX0, "keyOf", "(II)I"⟩
abbrev cX0_neighbour : ByteArray := prog_2_method_7_code
def yX0_neighbour : MethodName := ⟨RX0, "neighbour", "(II)I"⟩
abbrev cX0_stepsApart : ByteArray := prog_2_method_8_code
def yX0_stepsApart : MethodName := ⟨RX0, "stepsApart", "(II)I"⟩
def RX1 : String := "SevenKeys"
def TX1 : u_T := fun k => match k with
  | 0 => ("SevenKeys", "sheet", "LSevenKeys$Sheet;", true)
  | 1 => ("SevenKeys", "held", "[I", true)
  | 2 => ("SevenKeys", "keptImages", "I", false)
  | 3 => ("SevenKeys", "marks", "[I", true)
  | _ => ("SevenKeys", "queue", "[I", true)
def tyX1 : Nat → FieldType := fun k => match k with
  | 0 => .object "SevenKeys$Sheet"
  | 1 => .array .int
  | 2 => .int
  | 3 => .array .int
  | _ => .array .int
abbrev wsX10 : List Cond := u_ws RX1 TX1 5
theorem nmX1 : ∀ a, a < 5 → ∀ b, b < 5 → a ≠ b → (TX1 a).2.1 ≠ (TX1 b).2.1 := by decide +kernel
theorem tyX1_ok : ∀ k, k < 5 → parseFieldDescriptor (TX1 k).2.2.1 = some (tyX1 k) := by decide +kernel
abbrev cX1_init : ByteArray := prog_1_method_1_code
def yX1_init : MethodName := ⟨RX1, "<init>", "()V"⟩
abbrev cX1_point : ByteArray := prog_1_method_2_code
def yX1_point : MethodName := ⟨RX1, "point", "(II)I"⟩
abbrev cX1_key : ByteArray := prog_1_method_3_code
def yX1_key : MethodName := ⟨RX1, "key", "(II)I"⟩
abbrev cX1_next : ByteArray := prog_1_method_4_code
def yX1_next : MethodName := ⟨RX1, "next", "(II)I"⟩
abbrev cX1_far : ByteArray := prog_1_method_5_code
def yX1_far : MethodName := ⟨RX1, "far", "(II)I"⟩
abbrev cX1_side : ByteArray := prog_1_method_6_code
def yX1_side : MethodName := ⟨RX1, "side", "(II)I"⟩
abbrev cX1_patch : ByteArray := prog_1_method_7_code
def yX1_patch : MethodName := ⟨RX1, "patch", "(II)I"⟩
abbrev cX1_around : ByteArray := prog_1_method_8_code
def yX1_around : MethodName := ⟨RX1, "around", "(II)I"⟩
abbrev cX1_ring : ByteArray := prog_1_method_9_code
def yX1_ring : MethodName := ⟨RX1, "ring", "(II)I"⟩
abbrev cX1_put : ByteArray := prog_1_method_10_code
def yX1_put : MethodName := ⟨RX1, "put", "(IIII)I"⟩
abbrev cX1_disk : ByteArray := prog_1_method_11_code
def yX1_disk : MethodName := ⟨RX1, "disk", "(III)I"⟩
abbrev cX1_join : ByteArray := prog_1_method_12_code
def yX1_join : MethodName := ⟨RX1, "join", "(IIII)I"⟩
abbrev cX1_grow : ByteArray := prog_1_method_13_code
def yX1_grow : MethodName := ⟨RX1, "grow", "(III)I"⟩
abbrev cX1_has : ByteArray := prog_1_method_14_code
def yX1_has : MethodName := ⟨RX1, "has", "(II)I"⟩
abbrev cX1_about : ByteArray := prog_1_method_15_code
def yX1_about : MethodName := ⟨RX1, "about", "(II)I"⟩
abbrev cX1_packed : ByteArray := prog_1_method_16_code
def yX1_packed : MethodName := ⟨RX1, "packed", "(III)I"⟩
abbrev cX1_piece : ByteArray := prog_1_method_17_code
def yX1_piece : MethodName := ⟨RX1, "piece", "(II)I"⟩
abbrev cX1_way : ByteArray := prog_1_method_18_code
def yX1_way : MethodName := ⟨RX1, "way", "(III)I"⟩
abbrev cX1_alike : ByteArray := prog_1_method_19_code
def yX1_alike : MethodName := ⟨RX1, "alike", "(II)I"⟩
abbrev cX1_image : ByteArray := prog_1_method_20_code
def yX1_image : MethodName := ⟨RX1, "image", "(I)I"⟩
abbrev cX1_restore : ByteArray := prog_1_method_21_code
def yX1_restore : MethodName := ⟨RX1, "restore", "(I)I"⟩
abbrev cX1_count : ByteArray := prog_1_method_22_code
def yX1_count : MethodName := ⟨RX1, "count", "(I)I"⟩
abbrev cX1_within : ByteArray := prog_1_method_23_code
def yX1_within : MethodName := ⟨RX1, "within", "(III)Z"⟩
abbrev cX1_isKey : ByteArray := prog_1_method_24_code
def yX1_isKey : MethodName := ⟨RX1, "isKey", "(I)Z"⟩
abbrev cX1_isLevel : ByteArray := prog_1_method_25_code
def yX1_isLevel : MethodName := ⟨RX1, "isLevel", "(I)Z"⟩
abbrev cX1_isSlot : ByteArray := prog_1_method_26_code
def yX1_isSlot : MethodName := ⟨RX1, "isSlot", "(I)Z"⟩
abbrev cX1_valueAt : ByteArray := prog_1_method_27_code
def yX1_valueAt : MethodName := ⟨RX1, "valueAt", "([II)I"⟩
abbrev cX1_patchSize : ByteArray := prog_1_method_28_code
def yX1_patchSize : MethodName := ⟨RX1, "patchSize", "(I)I"⟩
abbrev cX1_patchOf : ByteArray := prog_1_method_29_code
def yX1_patchOf : MethodName := ⟨RX1, "patchOf", "(II)I"⟩
abbrev cX1_markPatchesNextTo : ByteArray := prog_1_method_30_code
def yX1_markPatchesNextTo : MethodName := ⟨RX1, "markPatchesNextTo", "(III)I"⟩
abbrev cX1_holds : ByteArray := prog_1_method_31_code
def yX1_holds : MethodName := ⟨RX1, "holds", "(II)Z"⟩
abbrev cX1_place : ByteArray := prog_1_method_32_code
def yX1_place : MethodName := ⟨RX1, "place", "(IIZ)V"⟩
abbrev cX1_sizeOf : ByteArray := prog_1_method_33_code
def yX1_sizeOf : MethodName := ⟨RX1, "sizeOf", "(I)I"⟩
abbrev cX1_leastKey : ByteArray := prog_1_method_34_code
def yX1_leastKey : MethodName := ⟨RX1, "leastKey", "(I)I"⟩
abbrev cX1_greatestKey : ByteArray := prog_1_method_35_code
def yX1_greatestKey : MethodName := ⟨RX1, "greatestKey", "(I)I"⟩
abbrev cX1_countHeldByAny : ByteArray := prog_1_method_36_code
def yX1_countHeldByAny : MethodName := ⟨RX1, "countHeldByAny", "()I"⟩
abbrev cX1_joined : ByteArray := prog_1_method_37_code
def yX1_joined : MethodName := ⟨RX1, "joined", "(ZZI)Z"⟩
abbrev cX1_countNeighbours : ByteArray := prog_1_method_38_code
def yX1_countNeighbours : MethodName := ⟨RX1, "countNeighbours", "(II)I"⟩
abbrev cX1_isOfOrNextTo : ByteArray := prog_1_method_39_code
def yX1_isOfOrNextTo : MethodName := ⟨RX1, "isOfOrNextTo", "(II)Z"⟩
abbrev cX1_isDeepIn : ByteArray := prog_1_method_40_code
def yX1_isDeepIn : MethodName := ⟨RX1, "isDeepIn", "(II)Z"⟩
abbrev cX1_borderOf : ByteArray := prog_1_method_41_code
def yX1_borderOf : MethodName := ⟨RX1, "borderOf", "(I)I"⟩
abbrev cX1_imageShift : ByteArray := prog_1_method_42_code
def yX1_imageShift : MethodName := ⟨RX1, "imageShift", "(I)I"⟩
abbrev cX1_countPacked : ByteArray := prog_1_method_43_code
def yX1_countPacked : MethodName := ⟨RX1, "countPacked", "(I)I"⟩
abbrev cX1_countPackedOfAll : ByteArray := prog_1_method_44_code
def yX1_countPackedOfAll : MethodName := ⟨RX1, "countPackedOfAll", "()I"⟩
abbrev cX1_packedKey : ByteArray := prog_1_method_45_code
def yX1_packedKey : MethodName := ⟨RX1, "packedKey", "(II)I"⟩
abbrev cX1_packedLevel : ByteArray := prog_1_method_46_code
def yX1_packedLevel : MethodName := ⟨RX1, "packedLevel", "(II)I"⟩
abbrev cX1_patchLiesIn : ByteArray := prog_1_method_47_code
def yX1_patchLiesIn : MethodName := ⟨RX1, "patchLiesIn", "(III)Z"⟩
abbrev cX1_isMarked : ByteArray := prog_1_method_48_code
def yX1_isMarked : MethodName := ⟨RX1, "isMarked", "(I)Z"⟩
abbrev cX1_mark : ByteArray := prog_1_method_49_code
def yX1_mark : MethodName := ⟨RX1, "mark", "(II)V"⟩
abbrev cX1_startsPiece : ByteArray := prog_1_method_50_code
def yX1_startsPiece : MethodName := ⟨RX1, "startsPiece", "(II)Z"⟩
abbrev cX1_countPieces : ByteArray := prog_1_method_51_code
def yX1_countPieces : MethodName := ⟨RX1, "countPieces", "(I)I"⟩
abbrev cX1_greatestPiece : ByteArray := prog_1_method_52_code
def yX1_greatestPiece : MethodName := ⟨RX1, "greatestPiece", "(I)I"⟩
abbrev cX1_flood : ByteArray := prog_1_method_53_code
def yX1_flood : MethodName := ⟨RX1, "flood", "(II)I"⟩
abbrev cX1_floodOn : ByteArray := prog_1_method_54_code
def yX1_floodOn : MethodName := ⟨RX1, "floodOn", "(III)I"⟩
abbrev cX1_enqueue : ByteArray := prog_1_method_55_code
def yX1_enqueue : MethodName := ⟨RX1, "enqueue", "(II)I"⟩
def RX2 : String := "SevenKeysModel"
def TX2 : u_T := fun k => match k with
  | 0 => ("SevenKeysModel", "as", "[I", true)
  | 1 => ("SevenKeysModel", "bs", "[I", true)
  | 2 => ("SevenKeysModel", "keys", "[I", true)
  | 3 => ("SevenKeysModel", "sets", "[Z", true)
  | 4 => ("SevenKeysModel", "isKept", "[Z", true)
  | 5 => ("SevenKeysModel", "isMet", "[Z", true)
  | 6 => ("SevenKeysModel", "made", "[Z", true)
  | 7 => ("SevenKeysModel", "patches", "[I", true)
  | 8 => ("SevenKeysModel", "levels", "[I", true)
  | 9 => ("SevenKeysModel", "packs", "I", false)
  | 10 => ("SevenKeysModel", "pieces", "[I", true)
  | 11 => ("SevenKeysModel", "steps", "[I", true)
  | 12 => ("SevenKeysModel", "still", "[I", true)
  | 13 => ("SevenKeysModel", "open", "I", false)
  | _ => ("SevenKeysModel", "most", "I", false)
def tyX2 : Nat → FieldType := fun k => match k with
  | 0 => .array .int
  | 1 => .array .int
  | 2 => .array .int
  | 3 => .array .boolean
  | 4 => .array .boolean
  | 5 => .array .boolean
  | 6 => .array .boolean
  | 7 => .array .int
  | 8 => .array .int
  | 9 => .int
  | 10 => .array .int
  | 11 => .array .int
  | 12 => .array .int
  | 13 => .int
  | _ => .int
abbrev wsX20 : List Cond := u_ws RX2 TX2 15
theorem nmX2 : ∀ a, a < 15 → ∀ b, b < 15 → a ≠ b → (TX2 a).2.1 ≠ (TX2 b).2.1 := by decide +kernel
theorem tyX2_ok : ∀ k, k < 15 → parseFieldDescriptor (TX2 k).2.2.1 = some (tyX2 k) := by decide +kernel
abbrev cX2_init : ByteArray := prog_4_method_1_code
def yX2_init : MethodName := ⟨RX2, "<init>", "()V"⟩
abbrev cX2_in : ByteArray := prog_4_method_2_code
def yX2_in : MethodName := ⟨RX2, "in", "(III)Z"⟩
abbrev cX2_isKey : ByteArray := prog_4_method_3_code
def yX2_isKey : MethodName := ⟨RX2, "isKey", "(I)Z"⟩
abbrev cX2_isSlot : ByteArray := prog_4_method_4_code
def yX2_isSlot : MethodName := ⟨RX2, "isSlot", "(I)Z"⟩
abbrev cX2_isLevel : ByteArray := prog_4_method_5_code
def yX2_isLevel : MethodName := ⟨RX2, "isLevel", "(I)Z"⟩
abbrev cX2_sideA : ByteArray := prog_4_method_6_code
def yX2_sideA : MethodName := ⟨RX2, "sideA", "(I)I"⟩
abbrev cX2_sideB : ByteArray := prog_4_method_7_code
def yX2_sideB : MethodName := ⟨RX2, "sideB", "(I)I"⟩
abbrev cX2_size : ByteArray := prog_4_method_8_code
def yX2_size : MethodName := ⟨RX2, "size", "(I)I"⟩
abbrev cX2_keyAt : ByteArray := prog_4_method_9_code
def yX2_keyAt : MethodName := ⟨RX2, "keyAt", "(II)I"⟩
abbrev cX2_point : ByteArray := prog_4_method_10_code
def yX2_point : MethodName := ⟨RX2, "point", "(II)I"⟩
abbrev cX2_key : ByteArray := prog_4_method_11_code
def yX2_key : MethodName := ⟨RX2, "key", "(II)I"⟩
abbrev cX2_nextOf : ByteArray := prog_4_method_12_code
def yX2_nextOf : MethodName := ⟨RX2, "nextOf", "(II)I"⟩
abbrev cX2_next : ByteArray := prog_4_method_13_code
def yX2_next : MethodName := ⟨RX2, "next", "(II)I"⟩
abbrev cX2_farOf : ByteArray := prog_4_method_14_code
def yX2_farOf : MethodName := ⟨RX2, "farOf", "(II)I"⟩
abbrev cX2_far : ByteArray := prog_4_method_15_code
def yX2_far : MethodName := ⟨RX2, "far", "(II)I"⟩
abbrev cX2_side : ByteArray := prog_4_method_16_code
def yX2_side : MethodName := ⟨RX2, "side", "(II)I"⟩
abbrev cX2_hexes : ByteArray := prog_4_method_17_code
def yX2_hexes : MethodName := ⟨RX2, "hexes", "(I)I"⟩
abbrev cX2_patchOf : ByteArray := prog_4_method_18_code
def yX2_patchOf : MethodName := ⟨RX2, "patchOf", "(II)I"⟩
abbrev cX2_patch : ByteArray := prog_4_method_19_code
def yX2_patch : MethodName := ⟨RX2, "patch", "(II)I"⟩
abbrev cX2_around : ByteArray := prog_4_method_20_code
def yX2_around : MethodName := ⟨RX2, "around", "(II)I"⟩
abbrev cX2_ring : ByteArray := prog_4_method_21_code
def yX2_ring : MethodName := ⟨RX2, "ring", "(II)I"⟩
abbrev cX2_isIn : ByteArray := prog_4_method_22_code
def yX2_isIn : MethodName := ⟨RX2, "isIn", "(II)Z"⟩
abbrev cX2_many : ByteArray := prog_4_method_23_code
def yX2_many : MethodName := ⟨RX2, "many", "(I)I"⟩
abbrev cX2_put : ByteArray := prog_4_method_24_code
def yX2_put : MethodName := ⟨RX2, "put", "(IIII)I"⟩
abbrev cX2_keep : ByteArray := prog_4_method_25_code
def yX2_keep : MethodName := ⟨RX2, "keep", "(I)I"⟩
abbrev cX2_disk : ByteArray := prog_4_method_26_code
def yX2_disk : MethodName := ⟨RX2, "disk", "(III)I"⟩
abbrev cX2_join : ByteArray := prog_4_method_27_code
def yX2_join : MethodName := ⟨RX2, "join", "(IIII)I"⟩
abbrev cX2_nextIn : ByteArray := prog_4_method_28_code
def yX2_nextIn : MethodName := ⟨RX2, "nextIn", "(II)I"⟩
abbrev cX2_grow : ByteArray := prog_4_method_29_code
def yX2_grow : MethodName := ⟨RX2, "grow", "(III)I"⟩
abbrev cX2_has : ByteArray := prog_4_method_30_code
def yX2_has : MethodName := ⟨RX2, "has", "(II)I"⟩
abbrev cX2_isWhole : ByteArray := prog_4_method_31_code
def yX2_isWhole : MethodName := ⟨RX2, "isWhole", "(III)Z"⟩
abbrev cX2_pack : ByteArray := prog_4_method_32_code
def yX2_pack : MethodName := ⟨RX2, "pack", "(I)V"⟩
abbrev cX2_border : ByteArray := prog_4_method_33_code
def yX2_border : MethodName := ⟨RX2, "border", "(I)I"⟩
abbrev cX2_spread : ByteArray := prog_4_method_34_code
def yX2_spread : MethodName := ⟨RX2, "spread", "(III)I"⟩
abbrev cX2_clearPieces : ByteArray := prog_4_method_35_code
def yX2_clearPieces : MethodName := ⟨RX2, "clearPieces", "()V"⟩
abbrev cX2_layPieces : ByteArray := prog_4_method_36_code
def yX2_layPieces : MethodName := ⟨RX2, "layPieces", "(I)I"⟩
abbrev cX2_endOf : ByteArray := prog_4_method_37_code
def yX2_endOf : MethodName := ⟨RX2, "endOf", "(IZ)I"⟩
abbrev cX2_about : ByteArray := prog_4_method_38_code
def yX2_about : MethodName := ⟨RX2, "about", "(II)I"⟩
abbrev cX2_packed : ByteArray := prog_4_method_39_code
def yX2_packed : MethodName := ⟨RX2, "packed", "(III)I"⟩
abbrev cX2_piece : ByteArray := prog_4_method_40_code
def yX2_piece : MethodName := ⟨RX2, "piece", "(II)I"⟩
abbrev cX2_way : ByteArray := prog_4_method_41_code
def yX2_way : MethodName := ⟨RX2, "way", "(III)I"⟩
abbrev cX2_alike : ByteArray := prog_4_method_42_code
def yX2_alike : MethodName := ⟨RX2, "alike", "(II)I"⟩
abbrev cX2_copy : ByteArray := prog_4_method_43_code
def yX2_copy : MethodName := ⟨RX2, "copy", "(II)V"⟩
abbrev cX2_image : ByteArray := prog_4_method_44_code
def yX2_image : MethodName := ⟨RX2, "image", "(I)I"⟩
abbrev cX2_restore : ByteArray := prog_4_method_45_code
def yX2_restore : MethodName := ⟨RX2, "restore", "(I)I"⟩
abbrev cX2_all : ByteArray := prog_4_method_46_code
def yX2_all : MethodName := ⟨RX2, "all", "()I"⟩
abbrev cX2_allPacked : ByteArray := prog_4_method_47_code
def yX2_allPacked : MethodName := ⟨RX2, "allPacked", "()I"⟩
abbrev cX2_count : ByteArray := prog_4_method_48_code
def yX2_count : MethodName := ⟨RX2, "count", "(I)I"⟩
def RJ9 : String := "java/lang/Math"
def TJ9 : u_T := fun k => match k with
  | _ => ("", "", "", false)
def tyJ9 : Nat → FieldType := fun k => match k with
  | _ => .int
abbrev wsJ90 : List Cond := u_ws RJ9 TJ9 0
theorem nmJ9 : ∀ a, a < 0 → ∀ b, b < 0 → a ≠ b → (TJ9 a).2.1 ≠ (TJ9 b).2.1 := by decide +kernel
theorem tyJ9_ok : ∀ k, k < 0 → parseFieldDescriptor (TJ9 k).2.2.1 = some (tyJ9 k) := by decide +kernel
abbrev cJ9_abs_0f7a4 : ByteArray := prog_5_method_59_code
def yJ9_abs_0f7a4 : MethodName := ⟨RJ9, "abs", "(I)I"⟩
abbrev cJ9_max_7cf53 : ByteArray := prog_5_method_65_code
def yJ9_max_7cf53 : MethodName := ⟨RJ9, "max", "(II)I"⟩
def RJ7 : String := "java/util/Arrays"
def TJ7 : u_T := fun k => match k with
  | _ => ("", "", "", false)
def tyJ7 : Nat → FieldType := fun k => match k with
  | _ => .int
abbrev wsJ70 : List Cond := u_ws RJ7 TJ7 0
theorem nmJ7 : ∀ a, a < 0 → ∀ b, b < 0 → a ≠ b → (TJ7 a).2.1 ≠ (TJ7 b).2.1 := by decide +kernel
theorem tyJ7_ok : ∀ k, k < 0 → parseFieldDescriptor (TJ7 k).2.2.1 = some (tyJ7 k) := by decide +kernel
abbrev cJ7_fill_53178 : ByteArray := prog_6_method_103_code
def yJ7_fill_53178 : MethodName := ⟨RJ7, "fill", "([II)V"⟩
def RL : String := "SevenKeysLaw"
abbrev cL_law : ByteArray := code
def yL_law : MethodName := ⟨RL, "law", "([I)Z"⟩
def wsJ7_fill_53178 : List Cond := .code yJ7_fill_53178 cJ7_fill_53178 4 none :: ([])
def wsX1_valueAt : List Cond := .code yX1_valueAt cX1_valueAt 2 (some .int) :: ([])
def wsX0_cellAt : List Cond := .code yX0_cellAt cX0_cellAt 2 (some .int) :: ([])
def wsX0_cellByFigures : List Cond := .code yX0_cellByFigures cX0_cellByFigures 7 (some .int) :: ([.fieldLink RX0 28 "SevenKeys$Sheet" "SIDE_A" "[I", .fieldLink RX0 35 "SevenKeys$Sheet" "SIDE_B" "[I", .static yX1_valueAt, .initialized RX1, .code yX1_valueAt cX1_valueAt 2 (some .int), .methodLink RX0 38 yX0_cellAt, .static yX0_cellAt, .initialized RX0, .code yX0_cellAt cX0_cellAt 2 (some .int)])
def wsX0_init : List Cond := .code yX0_init cX0_init 3 none :: ([.methodLink RX0 3 objectInit, .instanceMethod objectInit, .code objectInit ⟨#[0xb1]⟩ 1 none, .arrayClass .int, .fieldLink RX0 9 "SevenKeys$Sheet" "cells" "[I", .fieldLink RX0 15 "SevenKeys$Sheet" "keys" "[I", .methodLink RX0 18 yJ7_fill_53178, .static yJ7_fill_53178, .initialized RJ7, .code yJ7_fill_53178 cJ7_fill_53178 4 none, .methodLink RX0 24 yX0_cellByFigures, .static yX0_cellByFigures, .initialized RX0, .code yX0_cellByFigures cX0_cellByFigures 7 (some .int), .fieldLink RX0 28 "SevenKeys$Sheet" "SIDE_A" "[I", .fieldLink RX0 35 "SevenKeys$Sheet" "SIDE_B" "[I", .static yX1_valueAt, .initialized RX1, .code yX1_valueAt cX1_valueAt 2 (some .int), .methodLink RX0 38 yX0_cellAt, .static yX0_cellAt, .code yX0_cellAt cX0_cellAt 2 (some .int)] ++ wsX00)
def wsX0_pointA : List Cond := .code yX0_pointA cX0_pointA 2 (some .int) :: ([.fieldLink RX0 9 "SevenKeys$Sheet" "cells" "[I", .static yX1_valueAt, .initialized RX1, .code yX1_valueAt cX1_valueAt 2 (some .int)] ++ wsX00)
def wsX0_pointB : List Cond := .code yX0_pointB cX0_pointB 2 (some .int) :: ([.fieldLink RX0 9 "SevenKeys$Sheet" "cells" "[I", .static yX1_valueAt, .initialized RX1, .code yX1_valueAt cX1_valueAt 2 (some .int)] ++ wsX00)
def wsX1_within : List Cond := .code yX1_within cX1_within 3 (some .boolean) :: ([])
def wsX0_keyOf : List Cond := .code yX0_keyOf cX0_keyOf 3 (some .int) :: ([.fieldLink RX0 15 "SevenKeys$Sheet" "keys" "[I", .static yX1_within, .initialized RX1, .code yX1_within cX1_within 3 (some .boolean), .methodLink RX0 38 yX0_cellAt, .static yX0_cellAt, .initialized RX0, .code yX0_cellAt cX0_cellAt 2 (some .int), .static yX1_valueAt, .code yX1_valueAt cX1_valueAt 2 (some .int)] ++ wsX00)
def wsX0_neighbour : List Cond := .code yX0_neighbour cX0_neighbour 3 (some .int) :: ([.fieldLink RX0 15 "SevenKeys$Sheet" "keys" "[I", .fieldLink RX0 9 "SevenKeys$Sheet" "cells" "[I", .fieldLink RX0 46 "SevenKeys$Sheet" "SIDE_STEPS" "[I", .static yX1_valueAt, .initialized RX1, .code yX1_valueAt cX1_valueAt 2 (some .int)] ++ wsX00)
def wsX0_stepsApart : List Cond := .code yX0_stepsApart cX0_stepsApart 5 (some .int) :: ([.methodLink RX0 55 Lib.Math.abs.name, .static Lib.Math.abs.name, .initialized "java/lang/Math", .code Lib.Math.abs.name Lib.Math.abs.code 1 (some .int), .methodLink RX0 60 Lib.Math.max.name, .static Lib.Math.max.name, .code Lib.Math.max.name Lib.Math.max.code 2 (some .int), .methodLink RX0 49 yX0_pointA, .instanceMethod yX0_pointA, .selects RX0 yX0_pointA yX0_pointA, .initialized RX0, .code yX0_pointA cX0_pointA 2 (some .int), .fieldLink RX0 9 "SevenKeys$Sheet" "cells" "[I", .static yX1_valueAt, .initialized RX1, .code yX1_valueAt cX1_valueAt 2 (some .int), .methodLink RX0 52 yX0_pointB, .instanceMethod yX0_pointB, .selects RX0 yX0_pointB yX0_pointB, .code yX0_pointB cX0_pointB 2 (some .int)] ++ wsX00)
def wsX1_init_r1 : List Cond := [Cond.methodLink RX1 1 objectInit, Cond.instanceMethod objectInit, Cond.code objectInit ⟨#[0xb1]⟩ 1 none, Cond.classLink RX1 7 RX0, Cond.instantiable RX0 2, Cond.initialized RX0, Cond.fieldLink RX1 10 "SevenKeys" "sheet" "LSevenKeys$Sheet;", Cond.arrayClass .int, Cond.fieldLink RX1 16 "SevenKeys" "held" "[I", Cond.fieldLink RX1 20 "SevenKeys" "keptImages" "I", Cond.fieldLink RX1 24 "SevenKeys" "marks" "[I", Cond.fieldLink RX1 27 "SevenKeys" "queue" "[I", Cond.methodLink RX1 9 yX0_init, Cond.instanceMethod yX0_init, Cond.code yX0_init cX0_init 3 none, Cond.methodLink RX0 3 objectInit, Cond.fieldLink RX0 9 "SevenKeys$Sheet" "cells" "[I", Cond.fieldLink RX0 15 "SevenKeys$Sheet" "keys" "[I", Cond.methodLink RX0 18 yJ7_fill_53178, Cond.static yJ7_fill_53178, Cond.initialized RJ7, Cond.code yJ7_fill_53178 cJ7_fill_53178 4 none, Cond.methodLink RX0 24 yX0_cellByFigures, Cond.static yX0_cellByFigures]
def wsX1_init_r2 : List Cond := [Cond.code yX0_cellByFigures cX0_cellByFigures 7 (some .int), Cond.fieldLink RX0 28 "SevenKeys$Sheet" "SIDE_A" "[I", Cond.fieldLink RX0 35 "SevenKeys$Sheet" "SIDE_B" "[I", Cond.static yX1_valueAt, Cond.initialized RX1, Cond.code yX1_valueAt cX1_valueAt 2 (some .int), Cond.methodLink RX0 38 yX0_cellAt, Cond.static yX0_cellAt, Cond.code yX0_cellAt cX0_cellAt 2 (some .int)]
def wsX1_init : List Cond := .code yX1_init cX1_init 1 none :: ((wsX1_init_r1 ++ wsX1_init_r2) ++ wsX00 ++ wsX10)
def wsX1_isKey : List Cond := .code yX1_isKey cX1_isKey 1 (some .boolean) :: ([.methodLink RX1 34 yX1_within, .static yX1_within, .initialized RX1, .code yX1_within cX1_within 3 (some .boolean)])
def wsX1_point : List Cond := .code yX1_point cX1_point 3 (some .int) :: ([.fieldLink RX1 10 "SevenKeys" "sheet" "LSevenKeys$Sheet;", .methodLink RX1 30 yX1_isKey, .static yX1_isKey, .initialized RX1, .code yX1_isKey cX1_isKey 1 (some .boolean), .methodLink RX1 34 yX1_within, .static yX1_within, .code yX1_within cX1_within 3 (some .boolean), .methodLink RX1 38 yX0_pointA, .instanceMethod yX0_pointA, .selects RX0 yX0_pointA yX0_pointA, .initialized RX0, .code yX0_pointA cX0_pointA 2 (some .int), .fieldLink RX0 9 "SevenKeys$Sheet" "cells" "[I", .static yX1_valueAt, .code yX1_valueAt cX1_valueAt 2 (some .int), .methodLink RX1 42 yX0_pointB, .instanceMethod yX0_pointB, .selects RX0 yX0_pointB yX0_pointB, .code yX0_pointB cX0_pointB 2 (some .int)] ++ wsX10 ++ wsX00)
def wsX1_key : List Cond := .code yX1_key cX1_key 3 (some .int) :: ([.fieldLink RX1 10 "SevenKeys" "sheet" "LSevenKeys$Sheet;", .methodLink RX1 34 yX1_within, .static yX1_within, .initialized RX1, .code yX1_within cX1_within 3 (some .boolean), .methodLink RX1 45 yX0_keyOf, .instanceMethod yX0_keyOf, .selects RX0 yX0_keyOf yX0_keyOf, .initialized RX0, .code yX0_keyOf cX0_keyOf 3 (some .int), .fieldLink RX0 15 "SevenKeys$Sheet" "keys" "[I", .methodLink RX0 38 yX0_cellAt, .static yX0_cellAt, .code yX0_cellAt cX0_cellAt 2 (some .int), .static yX1_valueAt, .code yX1_valueAt cX1_valueAt 2 (some .int)] ++ wsX10 ++ wsX00)
def wsX1_next : List Cond := .code yX1_next cX1_next 3 (some .int) :: ([.fieldLink RX1 10 "SevenKeys" "sheet" "LSevenKeys$Sheet;", .methodLink RX1 30 yX1_isKey, .static yX1_isKey, .initialized RX1, .code yX1_isKey cX1_isKey 1 (some .boolean), .methodLink RX1 34 yX1_within, .static yX1_within, .code yX1_within cX1_within 3 (some .boolean), .methodLink RX1 49 yX0_neighbour, .instanceMethod yX0_neighbour, .selects RX0 yX0_neighbour yX0_neighbour, .initialized RX0, .code yX0_neighbour cX0_neighbour 3 (some .int), .fieldLink RX0 15 "SevenKeys$Sheet" "keys" "[I", .fieldLink RX0 9 "SevenKeys$Sheet" "cells" "[I", .fieldLink RX0 46 "SevenKeys$Sheet" "SIDE_STEPS" "[I", .static yX1_valueAt, .code yX1_valueAt cX1_valueAt 2 (some .int)] ++ wsX10 ++ wsX00)
def wsX1_far_r1 : List Cond := [Cond.fieldLink RX1 10 "SevenKeys" "sheet" "LSevenKeys$Sheet;", Cond.methodLink RX1 30 yX1_isKey, Cond.static yX1_isKey, Cond.initialized RX1, Cond.code yX1_isKey cX1_isKey 1 (some .boolean), Cond.methodLink RX1 34 yX1_within, Cond.static yX1_within, Cond.code yX1_within cX1_within 3 (some .boolean), Cond.methodLink RX1 52 yX0_stepsApart, Cond.instanceMethod yX0_stepsApart, Cond.selects RX0 yX0_stepsApart yX0_stepsApart, Cond.initialized RX0, Cond.code yX0_stepsApart cX0_stepsApart 5 (some .int), Cond.methodLink RX0 55 Lib.Math.abs.name, Cond.static Lib.Math.abs.name, Cond.initialized "java/lang/Math", Cond.code Lib.Math.abs.name Lib.Math.abs.code 1 (some .int), Cond.methodLink RX0 60 Lib.Math.max.name, Cond.static Lib.Math.max.name, Cond.code Lib.Math.max.name Lib.Math.max.code 2 (some .int), Cond.methodLink RX0 49 yX0_pointA, Cond.instanceMethod yX0_pointA, Cond.selects RX0 yX0_pointA yX0_pointA, Cond.code yX0_pointA cX0_pointA 2 (some .int)]
def wsX1_far_r2 : List Cond := [Cond.fieldLink RX0 9 "SevenKeys$Sheet" "cells" "[I", Cond.static yX1_valueAt, Cond.code yX1_valueAt cX1_valueAt 2 (some .int), Cond.methodLink RX0 52 yX0_pointB, Cond.instanceMethod yX0_pointB, Cond.selects RX0 yX0_pointB yX0_pointB, Cond.code yX0_pointB cX0_pointB 2 (some .int)]
def wsX1_far : List Cond := .code yX1_far cX1_far 3 (some .int) :: ((wsX1_far_r1 ++ wsX1_far_r2) ++ wsX10 ++ wsX00)
def wsX1_side : List Cond := .code yX1_side cX1_side 4 (some .int) :: ([.fieldLink RX1 10 "SevenKeys" "sheet" "LSevenKeys$Sheet;", .methodLink RX1 30 yX1_isKey, .static yX1_isKey, .initialized RX1, .code yX1_isKey cX1_isKey 1 (some .boolean), .methodLink RX1 34 yX1_within, .static yX1_within, .code yX1_within cX1_within 3 (some .boolean), .methodLink RX1 49 yX0_neighbour, .instanceMethod yX0_neighbour, .selects RX0 yX0_neighbour yX0_neighbour, .initialized RX0, .code yX0_neighbour cX0_neighbour 3 (some .int), .fieldLink RX0 15 "SevenKeys$Sheet" "keys" "[I", .fieldLink RX0 9 "SevenKeys$Sheet" "cells" "[I", .fieldLink RX0 46 "SevenKeys$Sheet" "SIDE_STEPS" "[I", .static yX1_valueAt, .code yX1_valueAt cX1_valueAt 2 (some .int)] ++ wsX10 ++ wsX00)
def wsX1_isLevel : List Cond := .code yX1_isLevel cX1_isLevel 1 (some .boolean) :: ([.methodLink RX1 34 yX1_within, .static yX1_within, .initialized RX1, .code yX1_within cX1_within 3 (some .boolean)])
def wsX1_patchSize : List Cond := .code yX1_patchSize cX1_patchSize 3 (some .int) :: ([])
def wsX1_patchOf : List Cond := .code yX1_patchOf cX1_patchOf 4 (some .int) :: ([.methodLink RX1 67 yX1_patchSize, .static yX1_patchSize, .initialized RX1, .code yX1_patchSize cX1_patchSize 3 (some .int)])
def wsX1_patch : List Cond := .code yX1_patch cX1_patch 3 (some .int) :: ([.methodLink RX1 30 yX1_isKey, .static yX1_isKey, .initialized RX1, .code yX1_isKey cX1_isKey 1 (some .boolean), .methodLink RX1 34 yX1_within, .static yX1_within, .code yX1_within cX1_within 3 (some .boolean), .methodLink RX1 55 yX1_isLevel, .static yX1_isLevel, .code yX1_isLevel cX1_isLevel 1 (some .boolean), .methodLink RX1 58 yX1_patchOf, .static yX1_patchOf, .code yX1_patchOf cX1_patchOf 4 (some .int), .methodLink RX1 67 yX1_patchSize, .static yX1_patchSize, .code yX1_patchSize cX1_patchSize 3 (some .int)])
def wsX1_isMarked : List Cond := .code yX1_isMarked cX1_isMarked 2 (some .boolean) :: ([.fieldLink RX1 24 "SevenKeys" "marks" "[I", .methodLink RX1 131 yX1_valueAt, .static yX1_valueAt, .initialized RX1, .code yX1_valueAt cX1_valueAt 2 (some .int)] ++ wsX10)
def wsX1_mark : List Cond := .code yX1_mark cX1_mark 3 none :: ([.fieldLink RX1 24 "SevenKeys" "marks" "[I"] ++ wsX10)
def wsX1_markPatchesNextTo_r1 : List Cond := [Cond.fieldLink RX1 10 "SevenKeys" "sheet" "LSevenKeys$Sheet;", Cond.methodLink RX1 49 yX0_neighbour, Cond.instanceMethod yX0_neighbour, Cond.selects RX0 yX0_neighbour yX0_neighbour, Cond.initialized RX0, Cond.code yX0_neighbour cX0_neighbour 3 (some .int), Cond.fieldLink RX0 15 "SevenKeys$Sheet" "keys" "[I", Cond.fieldLink RX0 9 "SevenKeys$Sheet" "cells" "[I", Cond.fieldLink RX0 46 "SevenKeys$Sheet" "SIDE_STEPS" "[I", Cond.static yX1_valueAt, Cond.initialized RX1, Cond.code yX1_valueAt cX1_valueAt 2 (some .int), Cond.methodLink RX1 58 yX1_patchOf, Cond.static yX1_patchOf, Cond.code yX1_patchOf cX1_patchOf 4 (some .int), Cond.methodLink RX1 67 yX1_patchSize, Cond.static yX1_patchSize, Cond.code yX1_patchSize cX1_patchSize 3 (some .int), Cond.methodLink RX1 128 yX1_isMarked, Cond.instanceMethod yX1_isMarked, Cond.selects RX1 yX1_isMarked yX1_isMarked, Cond.code yX1_isMarked cX1_isMarked 2 (some .boolean), Cond.fieldLink RX1 24 "SevenKeys" "marks" "[I", Cond.methodLink RX1 131 yX1_valueAt]
def wsX1_markPatchesNextTo_r2 : List Cond := [Cond.methodLink RX1 145 yX1_mark, Cond.instanceMethod yX1_mark, Cond.selects RX1 yX1_mark yX1_mark, Cond.code yX1_mark cX1_mark 3 none]
def wsX1_markPatchesNextTo : List Cond := .code yX1_markPatchesNextTo cX1_markPatchesNextTo 8 (some .int) :: ((wsX1_markPatchesNextTo_r1 ++ wsX1_markPatchesNextTo_r2) ++ wsX10 ++ wsX00)
def wsX1_around_r1 : List Cond := [Cond.fieldLink RX1 24 "SevenKeys" "marks" "[I", Cond.methodLink RX1 30 yX1_isKey, Cond.static yX1_isKey, Cond.initialized RX1, Cond.code yX1_isKey cX1_isKey 1 (some .boolean), Cond.methodLink RX1 34 yX1_within, Cond.static yX1_within, Cond.code yX1_within cX1_within 3 (some .boolean), Cond.methodLink RX1 55 yX1_isLevel, Cond.static yX1_isLevel, Cond.code yX1_isLevel cX1_isLevel 1 (some .boolean), Cond.methodLink RX1 61 yJ7_fill_53178, Cond.static yJ7_fill_53178, Cond.initialized RJ7, Cond.code yJ7_fill_53178 cJ7_fill_53178 4 none, Cond.methodLink RX1 58 yX1_patchOf, Cond.static yX1_patchOf, Cond.code yX1_patchOf cX1_patchOf 4 (some .int), Cond.methodLink RX1 67 yX1_patchSize, Cond.static yX1_patchSize, Cond.code yX1_patchSize cX1_patchSize 3 (some .int), Cond.methodLink RX1 70 yX1_markPatchesNextTo, Cond.instanceMethod yX1_markPatchesNextTo, Cond.selects RX1 yX1_markPatchesNextTo yX1_markPatchesNextTo]
def wsX1_around_r2 : List Cond := [Cond.code yX1_markPatchesNextTo cX1_markPatchesNextTo 8 (some .int), Cond.fieldLink RX1 10 "SevenKeys" "sheet" "LSevenKeys$Sheet;", Cond.methodLink RX1 49 yX0_neighbour, Cond.instanceMethod yX0_neighbour, Cond.selects RX0 yX0_neighbour yX0_neighbour, Cond.initialized RX0, Cond.code yX0_neighbour cX0_neighbour 3 (some .int), Cond.fieldLink RX0 15 "SevenKeys$Sheet" "keys" "[I", Cond.fieldLink RX0 9 "SevenKeys$Sheet" "cells" "[I", Cond.fieldLink RX0 46 "SevenKeys$Sheet" "SIDE_STEPS" "[I", Cond.static yX1_valueAt, Cond.code yX1_valueAt cX1_valueAt 2 (some .int), Cond.methodLink RX1 128 yX1_isMarked, Cond.instanceMethod yX1_isMarked, Cond.selects RX1 yX1_isMarked yX1_isMarked, Cond.code yX1_isMarked cX1_isMarked 2 (some .boolean), Cond.methodLink RX1 131 yX1_valueAt, Cond.methodLink RX1 145 yX1_mark, Cond.instanceMethod yX1_mark, Cond.selects RX1 yX1_mark yX1_mark, Cond.code yX1_mark cX1_mark 3 none]
def wsX1_around : List Cond := .code yX1_around cX1_around 7 (some .int) :: ((wsX1_around_r1 ++ wsX1_around_r2) ++ wsX10 ++ wsX00)
def wsX1_ring_r1 : List Cond := [Cond.fieldLink RX1 10 "SevenKeys" "sheet" "LSevenKeys$Sheet;", Cond.methodLink RX1 30 yX1_isKey, Cond.static yX1_isKey, Cond.initialized RX1, Cond.code yX1_isKey cX1_isKey 1 (some .boolean), Cond.methodLink RX1 34 yX1_within, Cond.static yX1_within, Cond.code yX1_within cX1_within 3 (some .boolean), Cond.methodLink RX1 52 yX0_stepsApart, Cond.instanceMethod yX0_stepsApart, Cond.selects RX0 yX0_stepsApart yX0_stepsApart, Cond.initialized RX0, Cond.code yX0_stepsApart cX0_stepsApart 5 (some .int), Cond.methodLink RX0 55 Lib.Math.abs.name, Cond.static Lib.Math.abs.name, Cond.initialized "java/lang/Math", Cond.code Lib.Math.abs.name Lib.Math.abs.code 1 (some .int), Cond.methodLink RX0 60 Lib.Math.max.name, Cond.static Lib.Math.max.name, Cond.code Lib.Math.max.name Lib.Math.max.code 2 (some .int), Cond.methodLink RX0 49 yX0_pointA, Cond.instanceMethod yX0_pointA, Cond.selects RX0 yX0_pointA yX0_pointA, Cond.code yX0_pointA cX0_pointA 2 (some .int)]
def wsX1_ring_r2 : List Cond := [Cond.fieldLink RX0 9 "SevenKeys$Sheet" "cells" "[I", Cond.static yX1_valueAt, Cond.code yX1_valueAt cX1_valueAt 2 (some .int), Cond.methodLink RX0 52 yX0_pointB, Cond.instanceMethod yX0_pointB, Cond.selects RX0 yX0_pointB yX0_pointB, Cond.code yX0_pointB cX0_pointB 2 (some .int)]
def wsX1_ring : List Cond := .code yX1_ring cX1_ring 5 (some .int) :: ((wsX1_ring_r1 ++ wsX1_ring_r2) ++ wsX10 ++ wsX00)
def wsX1_isSlot : List Cond := .code yX1_isSlot cX1_isSlot 1 (some .boolean) :: ([.methodLink RX1 34 yX1_within, .static yX1_within, .initialized RX1, .code yX1_within cX1_within 3 (some .boolean)])
def wsX1_place : List Cond := .code yX1_place cX1_place 5 none :: ([.fieldLink RX1 16 "SevenKeys" "held" "[I"] ++ wsX10)
def wsX1_holds : List Cond := .code yX1_holds cX1_holds 3 (some .boolean) :: ([.fieldLink RX1 16 "SevenKeys" "held" "[I"] ++ wsX10)
def wsX1_sizeOf : List Cond := .code yX1_sizeOf cX1_sizeOf 4 (some .int) :: ([.methodLink RX1 84 yX1_holds, .instanceMethod yX1_holds, .selects RX1 yX1_holds yX1_holds, .initialized RX1, .code yX1_holds cX1_holds 3 (some .boolean), .fieldLink RX1 16 "SevenKeys" "held" "[I"] ++ wsX10)
def wsX1_put_r1 : List Cond := [Cond.methodLink RX1 74 yX1_isSlot, Cond.static yX1_isSlot, Cond.initialized RX1, Cond.code yX1_isSlot cX1_isSlot 1 (some .boolean), Cond.methodLink RX1 34 yX1_within, Cond.static yX1_within, Cond.code yX1_within cX1_within 3 (some .boolean), Cond.methodLink RX1 30 yX1_isKey, Cond.static yX1_isKey, Cond.code yX1_isKey cX1_isKey 1 (some .boolean), Cond.methodLink RX1 55 yX1_isLevel, Cond.static yX1_isLevel, Cond.code yX1_isLevel cX1_isLevel 1 (some .boolean), Cond.methodLink RX1 58 yX1_patchOf, Cond.static yX1_patchOf, Cond.code yX1_patchOf cX1_patchOf 4 (some .int), Cond.methodLink RX1 67 yX1_patchSize, Cond.static yX1_patchSize, Cond.code yX1_patchSize cX1_patchSize 3 (some .int), Cond.methodLink RX1 77 yX1_place, Cond.instanceMethod yX1_place, Cond.selects RX1 yX1_place yX1_place, Cond.code yX1_place cX1_place 5 none, Cond.fieldLink RX1 16 "SevenKeys" "held" "[I"]
def wsX1_put_r2 : List Cond := [Cond.methodLink RX1 81 yX1_sizeOf, Cond.instanceMethod yX1_sizeOf, Cond.selects RX1 yX1_sizeOf yX1_sizeOf, Cond.code yX1_sizeOf cX1_sizeOf 4 (some .int), Cond.methodLink RX1 84 yX1_holds, Cond.instanceMethod yX1_holds, Cond.selects RX1 yX1_holds yX1_holds, Cond.code yX1_holds cX1_holds 3 (some .boolean)]
def wsX1_put : List Cond := .code yX1_put cX1_put 8 (some .int) :: ((wsX1_put_r1 ++ wsX1_put_r2) ++ wsX10)
def wsX1_disk_r1 : List Cond := [Cond.fieldLink RX1 10 "SevenKeys" "sheet" "LSevenKeys$Sheet;", Cond.methodLink RX1 74 yX1_isSlot, Cond.static yX1_isSlot, Cond.initialized RX1, Cond.code yX1_isSlot cX1_isSlot 1 (some .boolean), Cond.methodLink RX1 34 yX1_within, Cond.static yX1_within, Cond.code yX1_within cX1_within 3 (some .boolean), Cond.methodLink RX1 30 yX1_isKey, Cond.static yX1_isKey, Cond.code yX1_isKey cX1_isKey 1 (some .boolean), Cond.methodLink RX1 52 yX0_stepsApart, Cond.instanceMethod yX0_stepsApart, Cond.selects RX0 yX0_stepsApart yX0_stepsApart, Cond.initialized RX0, Cond.code yX0_stepsApart cX0_stepsApart 5 (some .int), Cond.methodLink RX0 55 Lib.Math.abs.name, Cond.static Lib.Math.abs.name, Cond.initialized "java/lang/Math", Cond.code Lib.Math.abs.name Lib.Math.abs.code 1 (some .int), Cond.methodLink RX0 60 Lib.Math.max.name, Cond.static Lib.Math.max.name, Cond.code Lib.Math.max.name Lib.Math.max.code 2 (some .int), Cond.methodLink RX0 49 yX0_pointA]
def wsX1_disk_r2 : List Cond := [Cond.instanceMethod yX0_pointA, Cond.selects RX0 yX0_pointA yX0_pointA, Cond.code yX0_pointA cX0_pointA 2 (some .int), Cond.fieldLink RX0 9 "SevenKeys$Sheet" "cells" "[I", Cond.static yX1_valueAt, Cond.code yX1_valueAt cX1_valueAt 2 (some .int), Cond.methodLink RX0 52 yX0_pointB, Cond.instanceMethod yX0_pointB, Cond.selects RX0 yX0_pointB yX0_pointB, Cond.code yX0_pointB cX0_pointB 2 (some .int), Cond.methodLink RX1 77 yX1_place, Cond.instanceMethod yX1_place, Cond.selects RX1 yX1_place yX1_place, Cond.code yX1_place cX1_place 5 none, Cond.fieldLink RX1 16 "SevenKeys" "held" "[I", Cond.methodLink RX1 81 yX1_sizeOf, Cond.instanceMethod yX1_sizeOf, Cond.selects RX1 yX1_sizeOf yX1_sizeOf, Cond.code yX1_sizeOf cX1_sizeOf 4 (some .int), Cond.methodLink RX1 84 yX1_holds, Cond.instanceMethod yX1_holds, Cond.selects RX1 yX1_holds yX1_holds, Cond.code yX1_holds cX1_holds 3 (some .boolean)]
def wsX1_disk : List Cond := .code yX1_disk cX1_disk 5 (some .int) :: ((wsX1_disk_r1 ++ wsX1_disk_r2) ++ wsX10 ++ wsX00)
def wsX1_joined : List Cond := .code yX1_joined cX1_joined 3 (some .boolean) :: ([])
def wsX1_join : List Cond := .code yX1_join cX1_join 6 (some .int) :: ([.methodLink RX1 74 yX1_isSlot, .static yX1_isSlot, .initialized RX1, .code yX1_isSlot cX1_isSlot 1 (some .boolean), .methodLink RX1 34 yX1_within, .static yX1_within, .code yX1_within cX1_within 3 (some .boolean), .methodLink RX1 84 yX1_holds, .instanceMethod yX1_holds, .selects RX1 yX1_holds yX1_holds, .code yX1_holds cX1_holds 3 (some .boolean), .fieldLink RX1 16 "SevenKeys" "held" "[I", .methodLink RX1 88 yX1_joined, .static yX1_joined, .code yX1_joined cX1_joined 3 (some .boolean), .methodLink RX1 77 yX1_place, .instanceMethod yX1_place, .selects RX1 yX1_place yX1_place, .code yX1_place cX1_place 5 none, .methodLink RX1 81 yX1_sizeOf, .instanceMethod yX1_sizeOf, .selects RX1 yX1_sizeOf yX1_sizeOf, .code yX1_sizeOf cX1_sizeOf 4 (some .int)] ++ wsX10)
def wsX1_countNeighbours : List Cond := .code yX1_countNeighbours cX1_countNeighbours 5 (some .int) :: ([.fieldLink RX1 10 "SevenKeys" "sheet" "LSevenKeys$Sheet;", .methodLink RX1 49 yX0_neighbour, .instanceMethod yX0_neighbour, .selects RX0 yX0_neighbour yX0_neighbour, .initialized RX0, .code yX0_neighbour cX0_neighbour 3 (some .int), .fieldLink RX0 15 "SevenKeys$Sheet" "keys" "[I", .fieldLink RX0 9 "SevenKeys$Sheet" "cells" "[I", .fieldLink RX0 46 "SevenKeys$Sheet" "SIDE_STEPS" "[I", .static yX1_valueAt, .initialized RX1, .code yX1_valueAt cX1_valueAt 2 (some .int), .methodLink RX1 84 yX1_holds, .instanceMethod yX1_holds, .selects RX1 yX1_holds yX1_holds, .code yX1_holds cX1_holds 3 (some .boolean), .fieldLink RX1 16 "SevenKeys" "held" "[I"] ++ wsX10 ++ wsX00)
def wsX1_isOfOrNextTo : List Cond := .code yX1_isOfOrNextTo cX1_isOfOrNextTo 3 (some .boolean) :: ([.methodLink RX1 84 yX1_holds, .instanceMethod yX1_holds, .selects RX1 yX1_holds yX1_holds, .initialized RX1, .code yX1_holds cX1_holds 3 (some .boolean), .fieldLink RX1 16 "SevenKeys" "held" "[I", .methodLink RX1 149 yX1_countNeighbours, .instanceMethod yX1_countNeighbours, .selects RX1 yX1_countNeighbours yX1_countNeighbours, .code yX1_countNeighbours cX1_countNeighbours 5 (some .int), .fieldLink RX1 10 "SevenKeys" "sheet" "LSevenKeys$Sheet;", .methodLink RX1 49 yX0_neighbour, .instanceMethod yX0_neighbour, .selects RX0 yX0_neighbour yX0_neighbour, .initialized RX0, .code yX0_neighbour cX0_neighbour 3 (some .int), .fieldLink RX0 15 "SevenKeys$Sheet" "keys" "[I", .fieldLink RX0 9 "SevenKeys$Sheet" "cells" "[I", .fieldLink RX0 46 "SevenKeys$Sheet" "SIDE_STEPS" "[I", .static yX1_valueAt, .code yX1_valueAt cX1_valueAt 2 (some .int)] ++ wsX10 ++ wsX00)
def wsX1_isDeepIn : List Cond := .code yX1_isDeepIn cX1_isDeepIn 3 (some .boolean) :: ([.methodLink RX1 84 yX1_holds, .instanceMethod yX1_holds, .selects RX1 yX1_holds yX1_holds, .initialized RX1, .code yX1_holds cX1_holds 3 (some .boolean), .fieldLink RX1 16 "SevenKeys" "held" "[I", .methodLink RX1 149 yX1_countNeighbours, .instanceMethod yX1_countNeighbours, .selects RX1 yX1_countNeighbours yX1_countNeighbours, .code yX1_countNeighbours cX1_countNeighbours 5 (some .int), .fieldLink RX1 10 "SevenKeys" "sheet" "LSevenKeys$Sheet;", .methodLink RX1 49 yX0_neighbour, .instanceMethod yX0_neighbour, .selects RX0 yX0_neighbour yX0_neighbour, .initialized RX0, .code yX0_neighbour cX0_neighbour 3 (some .int), .fieldLink RX0 15 "SevenKeys$Sheet" "keys" "[I", .fieldLink RX0 9 "SevenKeys$Sheet" "cells" "[I", .fieldLink RX0 46 "SevenKeys$Sheet" "SIDE_STEPS" "[I", .static yX1_valueAt, .code yX1_valueAt cX1_valueAt 2 (some .int)] ++ wsX10 ++ wsX00)
def wsX1_grow_r1 : List Cond := [Cond.fieldLink RX1 24 "SevenKeys" "marks" "[I", Cond.methodLink RX1 74 yX1_isSlot, Cond.static yX1_isSlot, Cond.initialized RX1, Cond.code yX1_isSlot cX1_isSlot 1 (some .boolean), Cond.methodLink RX1 34 yX1_within, Cond.static yX1_within, Cond.code yX1_within cX1_within 3 (some .boolean), Cond.methodLink RX1 92 yX1_isOfOrNextTo, Cond.instanceMethod yX1_isOfOrNextTo, Cond.selects RX1 yX1_isOfOrNextTo yX1_isOfOrNextTo, Cond.code yX1_isOfOrNextTo cX1_isOfOrNextTo 3 (some .boolean), Cond.methodLink RX1 84 yX1_holds, Cond.instanceMethod yX1_holds, Cond.selects RX1 yX1_holds yX1_holds, Cond.code yX1_holds cX1_holds 3 (some .boolean), Cond.fieldLink RX1 16 "SevenKeys" "held" "[I", Cond.methodLink RX1 149 yX1_countNeighbours, Cond.instanceMethod yX1_countNeighbours, Cond.selects RX1 yX1_countNeighbours yX1_countNeighbours, Cond.code yX1_countNeighbours cX1_countNeighbours 5 (some .int), Cond.fieldLink RX1 10 "SevenKeys" "sheet" "LSevenKeys$Sheet;", Cond.methodLink RX1 49 yX0_neighbour, Cond.instanceMethod yX0_neighbour]
def wsX1_grow_r2 : List Cond := [Cond.selects RX0 yX0_neighbour yX0_neighbour, Cond.initialized RX0, Cond.code yX0_neighbour cX0_neighbour 3 (some .int), Cond.fieldLink RX0 15 "SevenKeys$Sheet" "keys" "[I", Cond.fieldLink RX0 9 "SevenKeys$Sheet" "cells" "[I", Cond.fieldLink RX0 46 "SevenKeys$Sheet" "SIDE_STEPS" "[I", Cond.static yX1_valueAt, Cond.code yX1_valueAt cX1_valueAt 2 (some .int), Cond.methodLink RX1 95 yX1_isDeepIn, Cond.instanceMethod yX1_isDeepIn, Cond.selects RX1 yX1_isDeepIn yX1_isDeepIn, Cond.code yX1_isDeepIn cX1_isDeepIn 3 (some .boolean), Cond.methodLink RX1 77 yX1_place, Cond.instanceMethod yX1_place, Cond.selects RX1 yX1_place yX1_place, Cond.code yX1_place cX1_place 5 none, Cond.methodLink RX1 81 yX1_sizeOf, Cond.instanceMethod yX1_sizeOf, Cond.selects RX1 yX1_sizeOf yX1_sizeOf, Cond.code yX1_sizeOf cX1_sizeOf 4 (some .int)]
def wsX1_grow : List Cond := .code yX1_grow cX1_grow 6 (some .int) :: ((wsX1_grow_r1 ++ wsX1_grow_r2) ++ wsX10 ++ wsX00)
def wsX1_has : List Cond := .code yX1_has cX1_has 3 (some .int) :: ([.methodLink RX1 74 yX1_isSlot, .static yX1_isSlot, .initialized RX1, .code yX1_isSlot cX1_isSlot 1 (some .boolean), .methodLink RX1 34 yX1_within, .static yX1_within, .code yX1_within cX1_within 3 (some .boolean), .methodLink RX1 30 yX1_isKey, .static yX1_isKey, .code yX1_isKey cX1_isKey 1 (some .boolean), .methodLink RX1 84 yX1_holds, .instanceMethod yX1_holds, .selects RX1 yX1_holds yX1_holds, .code yX1_holds cX1_holds 3 (some .boolean), .fieldLink RX1 16 "SevenKeys" "held" "[I"] ++ wsX10)
def wsX1_patchLiesIn : List Cond := .code yX1_patchLiesIn cX1_patchLiesIn 6 (some .boolean) :: ([.methodLink RX1 58 yX1_patchOf, .static yX1_patchOf, .initialized RX1, .code yX1_patchOf cX1_patchOf 4 (some .int), .methodLink RX1 67 yX1_patchSize, .static yX1_patchSize, .code yX1_patchSize cX1_patchSize 3 (some .int), .methodLink RX1 84 yX1_holds, .instanceMethod yX1_holds, .selects RX1 yX1_holds yX1_holds, .code yX1_holds cX1_holds 3 (some .boolean), .fieldLink RX1 16 "SevenKeys" "held" "[I"] ++ wsX10)
def wsX1_packedLevel : List Cond := .code yX1_packedLevel cX1_packedLevel 4 (some .int) :: ([.methodLink RX1 152 yX1_patchLiesIn, .instanceMethod yX1_patchLiesIn, .selects RX1 yX1_patchLiesIn yX1_patchLiesIn, .initialized RX1, .code yX1_patchLiesIn cX1_patchLiesIn 6 (some .boolean), .methodLink RX1 58 yX1_patchOf, .static yX1_patchOf, .code yX1_patchOf cX1_patchOf 4 (some .int), .methodLink RX1 67 yX1_patchSize, .static yX1_patchSize, .code yX1_patchSize cX1_patchSize 3 (some .int), .methodLink RX1 84 yX1_holds, .instanceMethod yX1_holds, .selects RX1 yX1_holds yX1_holds, .code yX1_holds cX1_holds 3 (some .boolean), .fieldLink RX1 16 "SevenKeys" "held" "[I"] ++ wsX10)
def wsX1_countPacked : List Cond := .code yX1_countPacked cX1_countPacked 5 (some .int) :: ([.methodLink RX1 84 yX1_holds, .instanceMethod yX1_holds, .selects RX1 yX1_holds yX1_holds, .initialized RX1, .code yX1_holds cX1_holds 3 (some .boolean), .fieldLink RX1 16 "SevenKeys" "held" "[I", .methodLink RX1 119 yX1_packedLevel, .instanceMethod yX1_packedLevel, .selects RX1 yX1_packedLevel yX1_packedLevel, .code yX1_packedLevel cX1_packedLevel 4 (some .int), .methodLink RX1 152 yX1_patchLiesIn, .instanceMethod yX1_patchLiesIn, .selects RX1 yX1_patchLiesIn yX1_patchLiesIn, .code yX1_patchLiesIn cX1_patchLiesIn 6 (some .boolean), .methodLink RX1 58 yX1_patchOf, .static yX1_patchOf, .code yX1_patchOf cX1_patchOf 4 (some .int), .methodLink RX1 67 yX1_patchSize, .static yX1_patchSize, .code yX1_patchSize cX1_patchSize 3 (some .int)] ++ wsX10)
def wsX1_borderOf : List Cond := .code yX1_borderOf cX1_borderOf 4 (some .int) :: ([.methodLink RX1 84 yX1_holds, .instanceMethod yX1_holds, .selects RX1 yX1_holds yX1_holds, .initialized RX1, .code yX1_holds cX1_holds 3 (some .boolean), .fieldLink RX1 16 "SevenKeys" "held" "[I", .methodLink RX1 149 yX1_countNeighbours, .instanceMethod yX1_countNeighbours, .selects RX1 yX1_countNeighbours yX1_countNeighbours, .code yX1_countNeighbours cX1_countNeighbours 5 (some .int), .fieldLink RX1 10 "SevenKeys" "sheet" "LSevenKeys$Sheet;", .methodLink RX1 49 yX0_neighbour, .instanceMethod yX0_neighbour, .selects RX0 yX0_neighbour yX0_neighbour, .initialized RX0, .code yX0_neighbour cX0_neighbour 3 (some .int), .fieldLink RX0 15 "SevenKeys$Sheet" "keys" "[I", .fieldLink RX0 9 "SevenKeys$Sheet" "cells" "[I", .fieldLink RX0 46 "SevenKeys$Sheet" "SIDE_STEPS" "[I", .static yX1_valueAt, .code yX1_valueAt cX1_valueAt 2 (some .int)] ++ wsX10 ++ wsX00)
def wsX1_startsPiece : List Cond := .code yX1_startsPiece cX1_startsPiece 3 (some .boolean) :: ([.methodLink RX1 84 yX1_holds, .instanceMethod yX1_holds, .selects RX1 yX1_holds yX1_holds, .initialized RX1, .code yX1_holds cX1_holds 3 (some .boolean), .fieldLink RX1 16 "SevenKeys" "held" "[I", .methodLink RX1 128 yX1_isMarked, .instanceMethod yX1_isMarked, .selects RX1 yX1_isMarked yX1_isMarked, .code yX1_isMarked cX1_isMarked 2 (some .boolean), .fieldLink RX1 24 "SevenKeys" "marks" "[I", .methodLink RX1 131 yX1_valueAt, .static yX1_valueAt, .code yX1_valueAt cX1_valueAt 2 (some .int)] ++ wsX10)
def wsX1_enqueue : List Cond := .code yX1_enqueue cX1_enqueue 3 (some .int) :: ([.fieldLink RX1 27 "SevenKeys" "queue" "[I"] ++ wsX10)
def wsX1_floodOn_r1 : List Cond := [Cond.fieldLink RX1 24 "SevenKeys" "marks" "[I", Cond.fieldLink RX1 10 "SevenKeys" "sheet" "LSevenKeys$Sheet;", Cond.methodLink RX1 131 yX1_valueAt, Cond.static yX1_valueAt, Cond.initialized RX1, Cond.code yX1_valueAt cX1_valueAt 2 (some .int), Cond.methodLink RX1 49 yX0_neighbour, Cond.instanceMethod yX0_neighbour, Cond.selects RX0 yX0_neighbour yX0_neighbour, Cond.initialized RX0, Cond.code yX0_neighbour cX0_neighbour 3 (some .int), Cond.fieldLink RX0 15 "SevenKeys$Sheet" "keys" "[I", Cond.fieldLink RX0 9 "SevenKeys$Sheet" "cells" "[I", Cond.fieldLink RX0 46 "SevenKeys$Sheet" "SIDE_STEPS" "[I", Cond.methodLink RX1 122 yX1_startsPiece, Cond.instanceMethod yX1_startsPiece, Cond.selects RX1 yX1_startsPiece yX1_startsPiece, Cond.code yX1_startsPiece cX1_startsPiece 3 (some .boolean), Cond.methodLink RX1 84 yX1_holds, Cond.instanceMethod yX1_holds, Cond.selects RX1 yX1_holds yX1_holds, Cond.code yX1_holds cX1_holds 3 (some .boolean), Cond.fieldLink RX1 16 "SevenKeys" "held" "[I", Cond.methodLink RX1 128 yX1_isMarked]
def wsX1_floodOn_r2 : List Cond := [Cond.instanceMethod yX1_isMarked, Cond.selects RX1 yX1_isMarked yX1_isMarked, Cond.code yX1_isMarked cX1_isMarked 2 (some .boolean), Cond.methodLink RX1 145 yX1_mark, Cond.instanceMethod yX1_mark, Cond.selects RX1 yX1_mark yX1_mark, Cond.code yX1_mark cX1_mark 3 none, Cond.methodLink RX1 160 yX1_enqueue, Cond.instanceMethod yX1_enqueue, Cond.selects RX1 yX1_enqueue yX1_enqueue, Cond.code yX1_enqueue cX1_enqueue 3 (some .int), Cond.fieldLink RX1 27 "SevenKeys" "queue" "[I"]
def wsX1_floodOn : List Cond := .code yX1_floodOn cX1_floodOn 8 (some .int) :: ((wsX1_floodOn_r1 ++ wsX1_floodOn_r2) ++ wsX10 ++ wsX00)
def wsX1_flood_r1 : List Cond := [Cond.fieldLink RX1 27 "SevenKeys" "queue" "[I", Cond.methodLink RX1 145 yX1_mark, Cond.instanceMethod yX1_mark, Cond.selects RX1 yX1_mark yX1_mark, Cond.initialized RX1, Cond.code yX1_mark cX1_mark 3 none, Cond.fieldLink RX1 24 "SevenKeys" "marks" "[I", Cond.methodLink RX1 160 yX1_enqueue, Cond.instanceMethod yX1_enqueue, Cond.selects RX1 yX1_enqueue yX1_enqueue, Cond.code yX1_enqueue cX1_enqueue 3 (some .int), Cond.methodLink RX1 163 yX1_floodOn, Cond.instanceMethod yX1_floodOn, Cond.selects RX1 yX1_floodOn yX1_floodOn, Cond.code yX1_floodOn cX1_floodOn 8 (some .int), Cond.fieldLink RX1 10 "SevenKeys" "sheet" "LSevenKeys$Sheet;", Cond.methodLink RX1 131 yX1_valueAt, Cond.static yX1_valueAt, Cond.code yX1_valueAt cX1_valueAt 2 (some .int), Cond.methodLink RX1 49 yX0_neighbour, Cond.instanceMethod yX0_neighbour, Cond.selects RX0 yX0_neighbour yX0_neighbour, Cond.initialized RX0, Cond.code yX0_neighbour cX0_neighbour 3 (some .int)]
def wsX1_flood_r2 : List Cond := [Cond.fieldLink RX0 15 "SevenKeys$Sheet" "keys" "[I", Cond.fieldLink RX0 9 "SevenKeys$Sheet" "cells" "[I", Cond.fieldLink RX0 46 "SevenKeys$Sheet" "SIDE_STEPS" "[I", Cond.methodLink RX1 122 yX1_startsPiece, Cond.instanceMethod yX1_startsPiece, Cond.selects RX1 yX1_startsPiece yX1_startsPiece, Cond.code yX1_startsPiece cX1_startsPiece 3 (some .boolean), Cond.methodLink RX1 84 yX1_holds, Cond.instanceMethod yX1_holds, Cond.selects RX1 yX1_holds yX1_holds, Cond.code yX1_holds cX1_holds 3 (some .boolean), Cond.fieldLink RX1 16 "SevenKeys" "held" "[I", Cond.methodLink RX1 128 yX1_isMarked, Cond.instanceMethod yX1_isMarked, Cond.selects RX1 yX1_isMarked yX1_isMarked, Cond.code yX1_isMarked cX1_isMarked 2 (some .boolean)]
def wsX1_flood : List Cond := .code yX1_flood cX1_flood 5 (some .int) :: ((wsX1_flood_r1 ++ wsX1_flood_r2) ++ wsX10 ++ wsX00)
def wsX1_countPieces_r1 : List Cond := [Cond.fieldLink RX1 24 "SevenKeys" "marks" "[I", Cond.methodLink RX1 61 yJ7_fill_53178, Cond.static yJ7_fill_53178, Cond.initialized RJ7, Cond.code yJ7_fill_53178 cJ7_fill_53178 4 none, Cond.methodLink RX1 122 yX1_startsPiece, Cond.instanceMethod yX1_startsPiece, Cond.selects RX1 yX1_startsPiece yX1_startsPiece, Cond.initialized RX1, Cond.code yX1_startsPiece cX1_startsPiece 3 (some .boolean), Cond.methodLink RX1 84 yX1_holds, Cond.instanceMethod yX1_holds, Cond.selects RX1 yX1_holds yX1_holds, Cond.code yX1_holds cX1_holds 3 (some .boolean), Cond.fieldLink RX1 16 "SevenKeys" "held" "[I", Cond.methodLink RX1 128 yX1_isMarked, Cond.instanceMethod yX1_isMarked, Cond.selects RX1 yX1_isMarked yX1_isMarked, Cond.code yX1_isMarked cX1_isMarked 2 (some .boolean), Cond.methodLink RX1 131 yX1_valueAt, Cond.static yX1_valueAt, Cond.code yX1_valueAt cX1_valueAt 2 (some .int), Cond.methodLink RX1 125 yX1_flood, Cond.instanceMethod yX1_flood]
def wsX1_countPieces_r2 : List Cond := [Cond.selects RX1 yX1_flood yX1_flood, Cond.code yX1_flood cX1_flood 5 (some .int), Cond.fieldLink RX1 27 "SevenKeys" "queue" "[I", Cond.methodLink RX1 145 yX1_mark, Cond.instanceMethod yX1_mark, Cond.selects RX1 yX1_mark yX1_mark, Cond.code yX1_mark cX1_mark 3 none, Cond.methodLink RX1 160 yX1_enqueue, Cond.instanceMethod yX1_enqueue, Cond.selects RX1 yX1_enqueue yX1_enqueue, Cond.code yX1_enqueue cX1_enqueue 3 (some .int), Cond.methodLink RX1 163 yX1_floodOn, Cond.instanceMethod yX1_floodOn, Cond.selects RX1 yX1_floodOn yX1_floodOn, Cond.code yX1_floodOn cX1_floodOn 8 (some .int), Cond.fieldLink RX1 10 "SevenKeys" "sheet" "LSevenKeys$Sheet;", Cond.methodLink RX1 49 yX0_neighbour, Cond.instanceMethod yX0_neighbour, Cond.selects RX0 yX0_neighbour yX0_neighbour, Cond.initialized RX0, Cond.code yX0_neighbour cX0_neighbour 3 (some .int), Cond.fieldLink RX0 15 "SevenKeys$Sheet" "keys" "[I", Cond.fieldLink RX0 9 "SevenKeys$Sheet" "cells" "[I", Cond.fieldLink RX0 46 "SevenKeys$Sheet" "SIDE_STEPS" "[I"]
def wsX1_countPieces : List Cond := .code yX1_countPieces cX1_countPieces 4 (some .int) :: ((wsX1_countPieces_r1 ++ wsX1_countPieces_r2) ++ wsX10 ++ wsX00)
def wsX1_greatestPiece_r1 : List Cond := [Cond.fieldLink RX1 24 "SevenKeys" "marks" "[I", Cond.methodLink RX1 155 Lib.Math.max.name, Cond.static Lib.Math.max.name, Cond.initialized "java/lang/Math", Cond.code Lib.Math.max.name Lib.Math.max.code 2 (some .int), Cond.methodLink RX1 61 yJ7_fill_53178, Cond.static yJ7_fill_53178, Cond.initialized RJ7, Cond.code yJ7_fill_53178 cJ7_fill_53178 4 none, Cond.methodLink RX1 122 yX1_startsPiece, Cond.instanceMethod yX1_startsPiece, Cond.selects RX1 yX1_startsPiece yX1_startsPiece, Cond.initialized RX1, Cond.code yX1_startsPiece cX1_startsPiece 3 (some .boolean), Cond.methodLink RX1 84 yX1_holds, Cond.instanceMethod yX1_holds, Cond.selects RX1 yX1_holds yX1_holds, Cond.code yX1_holds cX1_holds 3 (some .boolean), Cond.fieldLink RX1 16 "SevenKeys" "held" "[I", Cond.methodLink RX1 128 yX1_isMarked, Cond.instanceMethod yX1_isMarked, Cond.selects RX1 yX1_isMarked yX1_isMarked, Cond.code yX1_isMarked cX1_isMarked 2 (some .boolean), Cond.methodLink RX1 131 yX1_valueAt]
def wsX1_greatestPiece_r2 : List Cond := [Cond.static yX1_valueAt, Cond.code yX1_valueAt cX1_valueAt 2 (some .int), Cond.methodLink RX1 125 yX1_flood, Cond.instanceMethod yX1_flood, Cond.selects RX1 yX1_flood yX1_flood, Cond.code yX1_flood cX1_flood 5 (some .int), Cond.fieldLink RX1 27 "SevenKeys" "queue" "[I", Cond.methodLink RX1 145 yX1_mark, Cond.instanceMethod yX1_mark, Cond.selects RX1 yX1_mark yX1_mark, Cond.code yX1_mark cX1_mark 3 none, Cond.methodLink RX1 160 yX1_enqueue, Cond.instanceMethod yX1_enqueue, Cond.selects RX1 yX1_enqueue yX1_enqueue, Cond.code yX1_enqueue cX1_enqueue 3 (some .int), Cond.methodLink RX1 163 yX1_floodOn, Cond.instanceMethod yX1_floodOn, Cond.selects RX1 yX1_floodOn yX1_floodOn, Cond.code yX1_floodOn cX1_floodOn 8 (some .int), Cond.fieldLink RX1 10 "SevenKeys" "sheet" "LSevenKeys$Sheet;", Cond.methodLink RX1 49 yX0_neighbour, Cond.instanceMethod yX0_neighbour, Cond.selects RX0 yX0_neighbour yX0_neighbour, Cond.initialized RX0]
def wsX1_greatestPiece_r3 : List Cond := [Cond.code yX0_neighbour cX0_neighbour 3 (some .int), Cond.fieldLink RX0 15 "SevenKeys$Sheet" "keys" "[I", Cond.fieldLink RX0 9 "SevenKeys$Sheet" "cells" "[I", Cond.fieldLink RX0 46 "SevenKeys$Sheet" "SIDE_STEPS" "[I"]
def wsX1_greatestPiece : List Cond := .code yX1_greatestPiece cX1_greatestPiece 4 (some .int) :: ((wsX1_greatestPiece_r1 ++ (wsX1_greatestPiece_r2 ++ wsX1_greatestPiece_r3)) ++ wsX10 ++ wsX00)
def wsX1_leastKey : List Cond := .code yX1_leastKey cX1_leastKey 3 (some .int) :: ([.methodLink RX1 84 yX1_holds, .instanceMethod yX1_holds, .selects RX1 yX1_holds yX1_holds, .initialized RX1, .code yX1_holds cX1_holds 3 (some .boolean), .fieldLink RX1 16 "SevenKeys" "held" "[I"] ++ wsX10)
def wsX1_greatestKey : List Cond := .code yX1_greatestKey cX1_greatestKey 3 (some .int) :: ([.methodLink RX1 84 yX1_holds, .instanceMethod yX1_holds, .selects RX1 yX1_holds yX1_holds, .initialized RX1, .code yX1_holds cX1_holds 3 (some .boolean), .fieldLink RX1 16 "SevenKeys" "held" "[I"] ++ wsX10)
def wsX1_about_r1 : List Cond := [Cond.methodLink RX1 74 yX1_isSlot, Cond.static yX1_isSlot, Cond.initialized RX1, Cond.code yX1_isSlot cX1_isSlot 1 (some .boolean), Cond.methodLink RX1 34 yX1_within, Cond.static yX1_within, Cond.code yX1_within cX1_within 3 (some .boolean), Cond.methodLink RX1 81 yX1_sizeOf, Cond.instanceMethod yX1_sizeOf, Cond.selects RX1 yX1_sizeOf yX1_sizeOf, Cond.code yX1_sizeOf cX1_sizeOf 4 (some .int), Cond.methodLink RX1 84 yX1_holds, Cond.instanceMethod yX1_holds, Cond.selects RX1 yX1_holds yX1_holds, Cond.code yX1_holds cX1_holds 3 (some .boolean), Cond.fieldLink RX1 16 "SevenKeys" "held" "[I", Cond.methodLink RX1 98 yX1_countPacked, Cond.instanceMethod yX1_countPacked, Cond.selects RX1 yX1_countPacked yX1_countPacked, Cond.code yX1_countPacked cX1_countPacked 5 (some .int), Cond.methodLink RX1 119 yX1_packedLevel, Cond.instanceMethod yX1_packedLevel, Cond.selects RX1 yX1_packedLevel yX1_packedLevel, Cond.code yX1_packedLevel cX1_packedLevel 4 (some .int)]
def wsX1_about_r2 : List Cond := [Cond.methodLink RX1 152 yX1_patchLiesIn, Cond.instanceMethod yX1_patchLiesIn, Cond.selects RX1 yX1_patchLiesIn yX1_patchLiesIn, Cond.code yX1_patchLiesIn cX1_patchLiesIn 6 (some .boolean), Cond.methodLink RX1 58 yX1_patchOf, Cond.static yX1_patchOf, Cond.code yX1_patchOf cX1_patchOf 4 (some .int), Cond.methodLink RX1 67 yX1_patchSize, Cond.static yX1_patchSize, Cond.code yX1_patchSize cX1_patchSize 3 (some .int), Cond.methodLink RX1 101 yX1_borderOf, Cond.instanceMethod yX1_borderOf, Cond.selects RX1 yX1_borderOf yX1_borderOf, Cond.code yX1_borderOf cX1_borderOf 4 (some .int), Cond.methodLink RX1 149 yX1_countNeighbours, Cond.instanceMethod yX1_countNeighbours, Cond.selects RX1 yX1_countNeighbours yX1_countNeighbours, Cond.code yX1_countNeighbours cX1_countNeighbours 5 (some .int), Cond.fieldLink RX1 10 "SevenKeys" "sheet" "LSevenKeys$Sheet;", Cond.methodLink RX1 49 yX0_neighbour, Cond.instanceMethod yX0_neighbour, Cond.selects RX0 yX0_neighbour yX0_neighbour, Cond.initialized RX0, Cond.code yX0_neighbour cX0_neighbour 3 (some .int)]
def wsX1_about_r3 : List Cond := [Cond.fieldLink RX0 15 "SevenKeys$Sheet" "keys" "[I", Cond.fieldLink RX0 9 "SevenKeys$Sheet" "cells" "[I", Cond.fieldLink RX0 46 "SevenKeys$Sheet" "SIDE_STEPS" "[I", Cond.static yX1_valueAt, Cond.code yX1_valueAt cX1_valueAt 2 (some .int), Cond.methodLink RX1 104 yX1_countPieces, Cond.instanceMethod yX1_countPieces, Cond.selects RX1 yX1_countPieces yX1_countPieces, Cond.code yX1_countPieces cX1_countPieces 4 (some .int), Cond.fieldLink RX1 24 "SevenKeys" "marks" "[I", Cond.methodLink RX1 61 yJ7_fill_53178, Cond.static yJ7_fill_53178, Cond.initialized RJ7, Cond.code yJ7_fill_53178 cJ7_fill_53178 4 none, Cond.methodLink RX1 122 yX1_startsPiece, Cond.instanceMethod yX1_startsPiece, Cond.selects RX1 yX1_startsPiece yX1_startsPiece, Cond.code yX1_startsPiece cX1_startsPiece 3 (some .boolean), Cond.methodLink RX1 128 yX1_isMarked, Cond.instanceMethod yX1_isMarked, Cond.selects RX1 yX1_isMarked yX1_isMarked, Cond.code yX1_isMarked cX1_isMarked 2 (some .boolean), Cond.methodLink RX1 131 yX1_valueAt, Cond.methodLink RX1 125 yX1_flood]
def wsX1_about_r4 : List Cond := [Cond.instanceMethod yX1_flood, Cond.selects RX1 yX1_flood yX1_flood, Cond.code yX1_flood cX1_flood 5 (some .int), Cond.fieldLink RX1 27 "SevenKeys" "queue" "[I", Cond.methodLink RX1 145 yX1_mark, Cond.instanceMethod yX1_mark, Cond.selects RX1 yX1_mark yX1_mark, Cond.code yX1_mark cX1_mark 3 none, Cond.methodLink RX1 160 yX1_enqueue, Cond.instanceMethod yX1_enqueue, Cond.selects RX1 yX1_enqueue yX1_enqueue, Cond.code yX1_enqueue cX1_enqueue 3 (some .int), Cond.methodLink RX1 163 yX1_floodOn, Cond.instanceMethod yX1_floodOn, Cond.selects RX1 yX1_floodOn yX1_floodOn, Cond.code yX1_floodOn cX1_floodOn 8 (some .int), Cond.methodLink RX1 107 yX1_greatestPiece, Cond.instanceMethod yX1_greatestPiece, Cond.selects RX1 yX1_greatestPiece yX1_greatestPiece, Cond.code yX1_greatestPiece cX1_greatestPiece 4 (some .int), Cond.methodLink RX1 155 Lib.Math.max.name, Cond.static Lib.Math.max.name, Cond.initialized "java/lang/Math", Cond.code Lib.Math.max.name Lib.Math.max.code 2 (some .int)]
def wsX1_about_r5 : List Cond := [Cond.methodLink RX1 110 yX1_leastKey, Cond.instanceMethod yX1_leastKey, Cond.selects RX1 yX1_leastKey yX1_leastKey, Cond.code yX1_leastKey cX1_leastKey 3 (some .int), Cond.methodLink RX1 113 yX1_greatestKey, Cond.instanceMethod yX1_greatestKey, Cond.selects RX1 yX1_greatestKey yX1_greatestKey, Cond.code yX1_greatestKey cX1_greatestKey 3 (some .int)]
def wsX1_about : List Cond := .code yX1_about cX1_about 3 (some .int) :: ((wsX1_about_r1 ++ (wsX1_about_r2 ++ (wsX1_about_r3 ++ (wsX1_about_r4 ++ wsX1_about_r5)))) ++ wsX10 ++ wsX00)
def wsX1_packedKey : List Cond := .code yX1_packedKey cX1_packedKey 6 (some .int) :: ([.methodLink RX1 84 yX1_holds, .instanceMethod yX1_holds, .selects RX1 yX1_holds yX1_holds, .initialized RX1, .code yX1_holds cX1_holds 3 (some .boolean), .fieldLink RX1 16 "SevenKeys" "held" "[I", .methodLink RX1 119 yX1_packedLevel, .instanceMethod yX1_packedLevel, .selects RX1 yX1_packedLevel yX1_packedLevel, .code yX1_packedLevel cX1_packedLevel 4 (some .int), .methodLink RX1 152 yX1_patchLiesIn, .instanceMethod yX1_patchLiesIn, .selects RX1 yX1_patchLiesIn yX1_patchLiesIn, .code yX1_patchLiesIn cX1_patchLiesIn 6 (some .boolean), .methodLink RX1 58 yX1_patchOf, .static yX1_patchOf, .code yX1_patchOf cX1_patchOf 4 (some .int), .methodLink RX1 67 yX1_patchSize, .static yX1_patchSize, .code yX1_patchSize cX1_patchSize 3 (some .int)] ++ wsX10)
def wsX1_packed_r1 : List Cond := [Cond.methodLink RX1 74 yX1_isSlot, Cond.static yX1_isSlot, Cond.initialized RX1, Cond.code yX1_isSlot cX1_isSlot 1 (some .boolean), Cond.methodLink RX1 34 yX1_within, Cond.static yX1_within, Cond.code yX1_within cX1_within 3 (some .boolean), Cond.methodLink RX1 116 yX1_packedKey, Cond.instanceMethod yX1_packedKey, Cond.selects RX1 yX1_packedKey yX1_packedKey, Cond.code yX1_packedKey cX1_packedKey 6 (some .int), Cond.methodLink RX1 84 yX1_holds, Cond.instanceMethod yX1_holds, Cond.selects RX1 yX1_holds yX1_holds, Cond.code yX1_holds cX1_holds 3 (some .boolean), Cond.fieldLink RX1 16 "SevenKeys" "held" "[I", Cond.methodLink RX1 119 yX1_packedLevel, Cond.instanceMethod yX1_packedLevel, Cond.selects RX1 yX1_packedLevel yX1_packedLevel, Cond.code yX1_packedLevel cX1_packedLevel 4 (some .int), Cond.methodLink RX1 152 yX1_patchLiesIn, Cond.instanceMethod yX1_patchLiesIn, Cond.selects RX1 yX1_patchLiesIn yX1_patchLiesIn, Cond.code yX1_patchLiesIn cX1_patchLiesIn 6 (some .boolean)]
def wsX1_packed_r2 : List Cond := [Cond.methodLink RX1 58 yX1_patchOf, Cond.static yX1_patchOf, Cond.code yX1_patchOf cX1_patchOf 4 (some .int), Cond.methodLink RX1 67 yX1_patchSize, Cond.static yX1_patchSize, Cond.code yX1_patchSize cX1_patchSize 3 (some .int)]
def wsX1_packed : List Cond := .code yX1_packed cX1_packed 5 (some .int) :: ((wsX1_packed_r1 ++ wsX1_packed_r2) ++ wsX10)
def wsX1_piece_r1 : List Cond := [Cond.fieldLink RX1 24 "SevenKeys" "marks" "[I", Cond.methodLink RX1 74 yX1_isSlot, Cond.static yX1_isSlot, Cond.initialized RX1, Cond.code yX1_isSlot cX1_isSlot 1 (some .boolean), Cond.methodLink RX1 34 yX1_within, Cond.static yX1_within, Cond.code yX1_within cX1_within 3 (some .boolean), Cond.methodLink RX1 30 yX1_isKey, Cond.static yX1_isKey, Cond.code yX1_isKey cX1_isKey 1 (some .boolean), Cond.methodLink RX1 84 yX1_holds, Cond.instanceMethod yX1_holds, Cond.selects RX1 yX1_holds yX1_holds, Cond.code yX1_holds cX1_holds 3 (some .boolean), Cond.fieldLink RX1 16 "SevenKeys" "held" "[I", Cond.methodLink RX1 61 yJ7_fill_53178, Cond.static yJ7_fill_53178, Cond.initialized RJ7, Cond.code yJ7_fill_53178 cJ7_fill_53178 4 none, Cond.methodLink RX1 122 yX1_startsPiece, Cond.instanceMethod yX1_startsPiece, Cond.selects RX1 yX1_startsPiece yX1_startsPiece, Cond.code yX1_startsPiece cX1_startsPiece 3 (some .boolean)]
def wsX1_piece_r2 : List Cond := [Cond.methodLink RX1 128 yX1_isMarked, Cond.instanceMethod yX1_isMarked, Cond.selects RX1 yX1_isMarked yX1_isMarked, Cond.code yX1_isMarked cX1_isMarked 2 (some .boolean), Cond.methodLink RX1 131 yX1_valueAt, Cond.static yX1_valueAt, Cond.code yX1_valueAt cX1_valueAt 2 (some .int), Cond.methodLink RX1 125 yX1_flood, Cond.instanceMethod yX1_flood, Cond.selects RX1 yX1_flood yX1_flood, Cond.code yX1_flood cX1_flood 5 (some .int), Cond.fieldLink RX1 27 "SevenKeys" "queue" "[I", Cond.methodLink RX1 145 yX1_mark, Cond.instanceMethod yX1_mark, Cond.selects RX1 yX1_mark yX1_mark, Cond.code yX1_mark cX1_mark 3 none, Cond.methodLink RX1 160 yX1_enqueue, Cond.instanceMethod yX1_enqueue, Cond.selects RX1 yX1_enqueue yX1_enqueue, Cond.code yX1_enqueue cX1_enqueue 3 (some .int), Cond.methodLink RX1 163 yX1_floodOn, Cond.instanceMethod yX1_floodOn, Cond.selects RX1 yX1_floodOn yX1_floodOn, Cond.code yX1_floodOn cX1_floodOn 8 (some .int)]
def wsX1_piece_r3 : List Cond := [Cond.fieldLink RX1 10 "SevenKeys" "sheet" "LSevenKeys$Sheet;", Cond.methodLink RX1 49 yX0_neighbour, Cond.instanceMethod yX0_neighbour, Cond.selects RX0 yX0_neighbour yX0_neighbour, Cond.initialized RX0, Cond.code yX0_neighbour cX0_neighbour 3 (some .int), Cond.fieldLink RX0 15 "SevenKeys$Sheet" "keys" "[I", Cond.fieldLink RX0 9 "SevenKeys$Sheet" "cells" "[I", Cond.fieldLink RX0 46 "SevenKeys$Sheet" "SIDE_STEPS" "[I"]
def wsX1_piece : List Cond := .code yX1_piece cX1_piece 5 (some .int) :: ((wsX1_piece_r1 ++ (wsX1_piece_r2 ++ wsX1_piece_r3)) ++ wsX10 ++ wsX00)
def wsX1_way_r1 : List Cond := [Cond.fieldLink RX1 24 "SevenKeys" "marks" "[I", Cond.methodLink RX1 74 yX1_isSlot, Cond.static yX1_isSlot, Cond.initialized RX1, Cond.code yX1_isSlot cX1_isSlot 1 (some .boolean), Cond.methodLink RX1 34 yX1_within, Cond.static yX1_within, Cond.code yX1_within cX1_within 3 (some .boolean), Cond.methodLink RX1 30 yX1_isKey, Cond.static yX1_isKey, Cond.code yX1_isKey cX1_isKey 1 (some .boolean), Cond.methodLink RX1 84 yX1_holds, Cond.instanceMethod yX1_holds, Cond.selects RX1 yX1_holds yX1_holds, Cond.code yX1_holds cX1_holds 3 (some .boolean), Cond.fieldLink RX1 16 "SevenKeys" "held" "[I", Cond.methodLink RX1 61 yJ7_fill_53178, Cond.static yJ7_fill_53178, Cond.initialized RJ7, Cond.code yJ7_fill_53178 cJ7_fill_53178 4 none, Cond.methodLink RX1 125 yX1_flood, Cond.instanceMethod yX1_flood, Cond.selects RX1 yX1_flood yX1_flood, Cond.code yX1_flood cX1_flood 5 (some .int)]
def wsX1_way_r2 : List Cond := [Cond.fieldLink RX1 27 "SevenKeys" "queue" "[I", Cond.methodLink RX1 145 yX1_mark, Cond.instanceMethod yX1_mark, Cond.selects RX1 yX1_mark yX1_mark, Cond.code yX1_mark cX1_mark 3 none, Cond.methodLink RX1 160 yX1_enqueue, Cond.instanceMethod yX1_enqueue, Cond.selects RX1 yX1_enqueue yX1_enqueue, Cond.code yX1_enqueue cX1_enqueue 3 (some .int), Cond.methodLink RX1 163 yX1_floodOn, Cond.instanceMethod yX1_floodOn, Cond.selects RX1 yX1_floodOn yX1_floodOn, Cond.code yX1_floodOn cX1_floodOn 8 (some .int), Cond.fieldLink RX1 10 "SevenKeys" "sheet" "LSevenKeys$Sheet;", Cond.methodLink RX1 131 yX1_valueAt, Cond.static yX1_valueAt, Cond.code yX1_valueAt cX1_valueAt 2 (some .int), Cond.methodLink RX1 49 yX0_neighbour, Cond.instanceMethod yX0_neighbour, Cond.selects RX0 yX0_neighbour yX0_neighbour, Cond.initialized RX0, Cond.code yX0_neighbour cX0_neighbour 3 (some .int), Cond.fieldLink RX0 15 "SevenKeys$Sheet" "keys" "[I", Cond.fieldLink RX0 9 "SevenKeys$Sheet" "cells" "[I"]
def wsX1_way_r3 : List Cond := [Cond.fieldLink RX0 46 "SevenKeys$Sheet" "SIDE_STEPS" "[I", Cond.methodLink RX1 122 yX1_startsPiece, Cond.instanceMethod yX1_startsPiece, Cond.selects RX1 yX1_startsPiece yX1_startsPiece, Cond.code yX1_startsPiece cX1_startsPiece 3 (some .boolean), Cond.methodLink RX1 128 yX1_isMarked, Cond.instanceMethod yX1_isMarked, Cond.selects RX1 yX1_isMarked yX1_isMarked, Cond.code yX1_isMarked cX1_isMarked 2 (some .boolean)]
def wsX1_way : List Cond := .code yX1_way cX1_way 4 (some .int) :: ((wsX1_way_r1 ++ (wsX1_way_r2 ++ wsX1_way_r3)) ++ wsX10 ++ wsX00)
def wsX1_alike : List Cond := .code yX1_alike cX1_alike 9 (some .int) :: ([.methodLink RX1 74 yX1_isSlot, .static yX1_isSlot, .initialized RX1, .code yX1_isSlot cX1_isSlot 1 (some .boolean), .methodLink RX1 34 yX1_within, .static yX1_within, .code yX1_within cX1_within 3 (some .boolean), .methodLink RX1 84 yX1_holds, .instanceMethod yX1_holds, .selects RX1 yX1_holds yX1_holds, .code yX1_holds cX1_holds 3 (some .boolean), .fieldLink RX1 16 "SevenKeys" "held" "[I"] ++ wsX10)
def wsX1_imageShift : List Cond := .code yX1_imageShift cX1_imageShift 1 (some .int) :: ([])
def wsX1_image : List Cond := .code yX1_image cX1_image 5 (some .int) :: ([.fieldLink RX1 16 "SevenKeys" "held" "[I", .fieldLink RX1 20 "SevenKeys" "keptImages" "I", .methodLink RX1 34 yX1_within, .static yX1_within, .initialized RX1, .code yX1_within cX1_within 3 (some .boolean), .methodLink RX1 135 yX1_imageShift, .static yX1_imageShift, .code yX1_imageShift cX1_imageShift 1 (some .int)] ++ wsX10)
def wsX1_restore : List Cond := .code yX1_restore cX1_restore 4 (some .int) :: ([.fieldLink RX1 20 "SevenKeys" "keptImages" "I", .fieldLink RX1 16 "SevenKeys" "held" "[I", .methodLink RX1 34 yX1_within, .static yX1_within, .initialized RX1, .code yX1_within cX1_within 3 (some .boolean), .methodLink RX1 135 yX1_imageShift, .static yX1_imageShift, .code yX1_imageShift cX1_imageShift 1 (some .int)] ++ wsX10)
def wsX1_countHeldByAny : List Cond := .code yX1_countHeldByAny cX1_countHeldByAny 3 (some .int) :: ([.fieldLink RX1 16 "SevenKeys" "held" "[I"] ++ wsX10)
def wsX1_countPackedOfAll : List Cond := .code yX1_countPackedOfAll cX1_countPackedOfAll 3 (some .int) :: ([.methodLink RX1 98 yX1_countPacked, .instanceMethod yX1_countPacked, .selects RX1 yX1_countPacked yX1_countPacked, .initialized RX1, .code yX1_countPacked cX1_countPacked 5 (some .int), .methodLink RX1 84 yX1_holds, .instanceMethod yX1_holds, .selects RX1 yX1_holds yX1_holds, .code yX1_holds cX1_holds 3 (some .boolean), .fieldLink RX1 16 "SevenKeys" "held" "[I", .methodLink RX1 119 yX1_packedLevel, .instanceMethod yX1_packedLevel, .selects RX1 yX1_packedLevel yX1_packedLevel, .code yX1_packedLevel cX1_packedLevel 4 (some .int), .methodLink RX1 152 yX1_patchLiesIn, .instanceMethod yX1_patchLiesIn, .selects RX1 yX1_patchLiesIn yX1_patchLiesIn, .code yX1_patchLiesIn cX1_patchLiesIn 6 (some .boolean), .methodLink RX1 58 yX1_patchOf, .static yX1_patchOf, .code yX1_patchOf cX1_patchOf 4 (some .int), .methodLink RX1 67 yX1_patchSize, .static yX1_patchSize, .code yX1_patchSize cX1_patchSize 3 (some .int)] ++ wsX10)
def wsX1_count_r1 : List Cond := [Cond.fieldLink RX1 20 "SevenKeys" "keptImages" "I", Cond.methodLink RX1 138 yX1_countHeldByAny, Cond.instanceMethod yX1_countHeldByAny, Cond.selects RX1 yX1_countHeldByAny yX1_countHeldByAny, Cond.initialized RX1, Cond.code yX1_countHeldByAny cX1_countHeldByAny 3 (some .int), Cond.fieldLink RX1 16 "SevenKeys" "held" "[I", Cond.methodLink RX1 142 yX1_countPackedOfAll, Cond.instanceMethod yX1_countPackedOfAll, Cond.selects RX1 yX1_countPackedOfAll yX1_countPackedOfAll, Cond.code yX1_countPackedOfAll cX1_countPackedOfAll 3 (some .int), Cond.methodLink RX1 98 yX1_countPacked, Cond.instanceMethod yX1_countPacked, Cond.selects RX1 yX1_countPacked yX1_countPacked, Cond.code yX1_countPacked cX1_countPacked 5 (some .int), Cond.methodLink RX1 84 yX1_holds, Cond.instanceMethod yX1_holds, Cond.selects RX1 yX1_holds yX1_holds, Cond.code yX1_holds cX1_holds 3 (some .boolean), Cond.methodLink RX1 119 yX1_packedLevel, Cond.instanceMethod yX1_packedLevel, Cond.selects RX1 yX1_packedLevel yX1_packedLevel, Cond.code yX1_packedLevel cX1_packedLevel 4 (some .int), Cond.methodLink RX1 152 yX1_patchLiesIn]
def wsX1_count_r2 : List Cond := [Cond.instanceMethod yX1_patchLiesIn, Cond.selects RX1 yX1_patchLiesIn yX1_patchLiesIn, Cond.code yX1_patchLiesIn cX1_patchLiesIn 6 (some .boolean), Cond.methodLink RX1 58 yX1_patchOf, Cond.static yX1_patchOf, Cond.code yX1_patchOf cX1_patchOf 4 (some .int), Cond.methodLink RX1 67 yX1_patchSize, Cond.static yX1_patchSize, Cond.code yX1_patchSize cX1_patchSize 3 (some .int)]
def wsX1_count : List Cond := .code yX1_count cX1_count 2 (some .int) :: ((wsX1_count_r1 ++ wsX1_count_r2) ++ wsX10)
def wsX2_sideA : List Cond := .code yX2_sideA cX2_sideA 1 (some .int) :: ([])
def wsX2_sideB : List Cond := .code yX2_sideB cX2_sideB 1 (some .int) :: ([])
def wsX2_init : List Cond := .code yX2_init cX2_init 7 none :: ([.methodLink RX2 1 objectInit, .instanceMethod objectInit, .code objectInit ⟨#[0xb1]⟩ 1 none, .arrayClass .int, .fieldLink RX2 7 "SevenKeysModel" "as" "[I", .fieldLink RX2 13 "SevenKeysModel" "bs" "[I", .fieldLink RX2 16 "SevenKeysModel" "keys" "[I", .arrayClass .boolean, .fieldLink RX2 19 "SevenKeysModel" "sets" "[Z", .fieldLink RX2 23 "SevenKeysModel" "isKept" "[Z", .fieldLink RX2 26 "SevenKeysModel" "isMet" "[Z", .fieldLink RX2 29 "SevenKeysModel" "made" "[Z", .fieldLink RX2 32 "SevenKeysModel" "patches" "[I", .fieldLink RX2 35 "SevenKeysModel" "levels" "[I", .fieldLink RX2 38 "SevenKeysModel" "pieces" "[I", .fieldLink RX2 41 "SevenKeysModel" "steps" "[I", .fieldLink RX2 44 "SevenKeysModel" "still" "[I", .methodLink RX2 47 yX2_sideA, .static yX2_sideA, .initialized RX2, .code yX2_sideA cX2_sideA 1 (some .int), .methodLink RX2 51 yX2_sideB, .static yX2_sideB, .code yX2_sideB cX2_sideB 1 (some .int)] ++ wsX20)
def wsX2_in : List Cond := .code yX2_in cX2_in 3 (some .boolean) :: ([])
def wsX2_isKey : List Cond := .code yX2_isKey cX2_isKey 1 (some .boolean) :: ([.methodLink RX2 54 yX2_in, .static yX2_in, .initialized RX2, .code yX2_in cX2_in 3 (some .boolean)])
def wsX2_isSlot : List Cond := .code yX2_isSlot cX2_isSlot 1 (some .boolean) :: ([.methodLink RX2 54 yX2_in, .static yX2_in, .initialized RX2, .code yX2_in cX2_in 3 (some .boolean)])
def wsX2_isLevel : List Cond := .code yX2_isLevel cX2_isLevel 1 (some .boolean) :: ([.methodLink RX2 54 yX2_in, .static yX2_in, .initialized RX2, .code yX2_in cX2_in 3 (some .boolean)])
def wsX2_size : List Cond := .code yX2_size cX2_size 1 (some .int) :: ([])
def wsX2_keyAt : List Cond := .code yX2_keyAt cX2_keyAt 4 (some .int) :: ([.fieldLink RX2 16 "SevenKeysModel" "keys" "[I", .methodLink RX2 54 yX2_in, .static yX2_in, .initialized RX2, .code yX2_in cX2_in 3 (some .boolean)] ++ wsX20)
def wsX2_point : List Cond := .code yX2_point cX2_point 3 (some .int) :: ([.fieldLink RX2 7 "SevenKeysModel" "as" "[I", .fieldLink RX2 13 "SevenKeysModel" "bs" "[I", .methodLink RX2 58 yX2_isKey, .static yX2_isKey, .initialized RX2, .code yX2_isKey cX2_isKey 1 (some .boolean), .methodLink RX2 54 yX2_in, .static yX2_in, .code yX2_in cX2_in 3 (some .boolean)] ++ wsX20)
def wsX2_key : List Cond := .code yX2_key cX2_key 3 (some .int) :: ([.methodLink RX2 54 yX2_in, .static yX2_in, .initialized RX2, .code yX2_in cX2_in 3 (some .boolean), .methodLink RX2 62 yX2_keyAt, .instanceMethod yX2_keyAt, .selects RX2 yX2_keyAt yX2_keyAt, .code yX2_keyAt cX2_keyAt 4 (some .int), .fieldLink RX2 16 "SevenKeysModel" "keys" "[I"] ++ wsX20)
def wsX2_nextOf : List Cond := .code yX2_nextOf cX2_nextOf 3 (some .int) :: ([.fieldLink RX2 7 "SevenKeysModel" "as" "[I", .fieldLink RX2 13 "SevenKeysModel" "bs" "[I", .methodLink RX2 47 yX2_sideA, .static yX2_sideA, .initialized RX2, .code yX2_sideA cX2_sideA 1 (some .int), .methodLink RX2 51 yX2_sideB, .static yX2_sideB, .code yX2_sideB cX2_sideB 1 (some .int), .methodLink RX2 62 yX2_keyAt, .instanceMethod yX2_keyAt, .selects RX2 yX2_keyAt yX2_keyAt, .code yX2_keyAt cX2_keyAt 4 (some .int), .fieldLink RX2 16 "SevenKeysModel" "keys" "[I", .methodLink RX2 54 yX2_in, .static yX2_in, .code yX2_in cX2_in 3 (some .boolean)] ++ wsX20)
def wsX2_next : List Cond := .code yX2_next cX2_next 3 (some .int) :: ([.methodLink RX2 58 yX2_isKey, .static yX2_isKey, .initialized RX2, .code yX2_isKey cX2_isKey 1 (some .boolean), .methodLink RX2 54 yX2_in, .static yX2_in, .code yX2_in cX2_in 3 (some .boolean), .methodLink RX2 66 yX2_nextOf, .instanceMethod yX2_nextOf, .selects RX2 yX2_nextOf yX2_nextOf, .code yX2_nextOf cX2_nextOf 3 (some .int), .fieldLink RX2 7 "SevenKeysModel" "as" "[I", .fieldLink RX2 13 "SevenKeysModel" "bs" "[I", .methodLink RX2 47 yX2_sideA, .static yX2_sideA, .code yX2_sideA cX2_sideA 1 (some .int), .methodLink RX2 51 yX2_sideB, .static yX2_sideB, .code yX2_sideB cX2_sideB 1 (some .int), .methodLink RX2 62 yX2_keyAt, .instanceMethod yX2_keyAt, .selects RX2 yX2_keyAt yX2_keyAt, .code yX2_keyAt cX2_keyAt 4 (some .int), .fieldLink RX2 16 "SevenKeysModel" "keys" "[I"] ++ wsX20)
def wsX2_farOf : List Cond := .code yX2_farOf cX2_farOf 7 (some .int) :: ([.fieldLink RX2 7 "SevenKeysModel" "as" "[I", .fieldLink RX2 13 "SevenKeysModel" "bs" "[I", .methodLink RX2 69 yX2_size, .static yX2_size, .initialized RX2, .code yX2_size cX2_size 1 (some .int)] ++ wsX20)
def wsX2_far : List Cond := .code yX2_far cX2_far 3 (some .int) :: ([.methodLink RX2 58 yX2_isKey, .static yX2_isKey, .initialized RX2, .code yX2_isKey cX2_isKey 1 (some .boolean), .methodLink RX2 54 yX2_in, .static yX2_in, .code yX2_in cX2_in 3 (some .boolean), .methodLink RX2 72 yX2_farOf, .instanceMethod yX2_farOf, .selects RX2 yX2_farOf yX2_farOf, .code yX2_farOf cX2_farOf 7 (some .int), .fieldLink RX2 7 "SevenKeysModel" "as" "[I", .fieldLink RX2 13 "SevenKeysModel" "bs" "[I", .methodLink RX2 69 yX2_size, .static yX2_size, .code yX2_size cX2_size 1 (some .int)] ++ wsX20)
def wsX2_side : List Cond := .code yX2_side cX2_side 5 (some .int) :: ([.methodLink RX2 58 yX2_isKey, .static yX2_isKey, .initialized RX2, .code yX2_isKey cX2_isKey 1 (some .boolean), .methodLink RX2 54 yX2_in, .static yX2_in, .code yX2_in cX2_in 3 (some .boolean), .methodLink RX2 66 yX2_nextOf, .instanceMethod yX2_nextOf, .selects RX2 yX2_nextOf yX2_nextOf, .code yX2_nextOf cX2_nextOf 3 (some .int), .fieldLink RX2 7 "SevenKeysModel" "as" "[I", .fieldLink RX2 13 "SevenKeysModel" "bs" "[I", .methodLink RX2 47 yX2_sideA, .static yX2_sideA, .code yX2_sideA cX2_sideA 1 (some .int), .methodLink RX2 51 yX2_sideB, .static yX2_sideB, .code yX2_sideB cX2_sideB 1 (some .int), .methodLink RX2 62 yX2_keyAt, .instanceMethod yX2_keyAt, .selects RX2 yX2_keyAt yX2_keyAt, .code yX2_keyAt cX2_keyAt 4 (some .int), .fieldLink RX2 16 "SevenKeysModel" "keys" "[I"] ++ wsX20)
def wsX2_hexes : List Cond := .code yX2_hexes cX2_hexes 3 (some .int) :: ([])
def wsX2_patchOf : List Cond := .code yX2_patchOf cX2_patchOf 2 (some .int) :: ([.methodLink RX2 75 yX2_hexes, .static yX2_hexes, .initialized RX2, .code yX2_hexes cX2_hexes 3 (some .int)])
def wsX2_patch : List Cond := .code yX2_patch cX2_patch 3 (some .int) :: ([.methodLink RX2 58 yX2_isKey, .static yX2_isKey, .initialized RX2, .code yX2_isKey cX2_isKey 1 (some .boolean), .methodLink RX2 54 yX2_in, .static yX2_in, .code yX2_in cX2_in 3 (some .boolean), .methodLink RX2 78 yX2_isLevel, .static yX2_isLevel, .code yX2_isLevel cX2_isLevel 1 (some .boolean), .methodLink RX2 81 yX2_patchOf, .static yX2_patchOf, .code yX2_patchOf cX2_patchOf 2 (some .int), .methodLink RX2 75 yX2_hexes, .static yX2_hexes, .code yX2_hexes cX2_hexes 3 (some .int)])
def wsX2_around_r1 : List Cond := [Cond.fieldLink RX2 26 "SevenKeysModel" "isMet" "[Z", Cond.methodLink RX2 58 yX2_isKey, Cond.static yX2_isKey, Cond.initialized RX2, Cond.code yX2_isKey cX2_isKey 1 (some .boolean), Cond.methodLink RX2 54 yX2_in, Cond.static yX2_in, Cond.code yX2_in cX2_in 3 (some .boolean), Cond.methodLink RX2 78 yX2_isLevel, Cond.static yX2_isLevel, Cond.code yX2_isLevel cX2_isLevel 1 (some .boolean), Cond.methodLink RX2 81 yX2_patchOf, Cond.static yX2_patchOf, Cond.code yX2_patchOf cX2_patchOf 2 (some .int), Cond.methodLink RX2 75 yX2_hexes, Cond.static yX2_hexes, Cond.code yX2_hexes cX2_hexes 3 (some .int), Cond.methodLink RX2 66 yX2_nextOf, Cond.instanceMethod yX2_nextOf, Cond.selects RX2 yX2_nextOf yX2_nextOf, Cond.code yX2_nextOf cX2_nextOf 3 (some .int), Cond.fieldLink RX2 7 "SevenKeysModel" "as" "[I", Cond.fieldLink RX2 13 "SevenKeysModel" "bs" "[I", Cond.methodLink RX2 47 yX2_sideA]
def wsX2_around_r2 : List Cond := [Cond.static yX2_sideA, Cond.code yX2_sideA cX2_sideA 1 (some .int), Cond.methodLink RX2 51 yX2_sideB, Cond.static yX2_sideB, Cond.code yX2_sideB cX2_sideB 1 (some .int), Cond.methodLink RX2 62 yX2_keyAt, Cond.instanceMethod yX2_keyAt, Cond.selects RX2 yX2_keyAt yX2_keyAt, Cond.code yX2_keyAt cX2_keyAt 4 (some .int), Cond.fieldLink RX2 16 "SevenKeysModel" "keys" "[I"]
def wsX2_around : List Cond := .code yX2_around cX2_around 9 (some .int) :: ((wsX2_around_r1 ++ wsX2_around_r2) ++ wsX20)
def wsX2_ring : List Cond := .code yX2_ring cX2_ring 5 (some .int) :: ([.methodLink RX2 58 yX2_isKey, .static yX2_isKey, .initialized RX2, .code yX2_isKey cX2_isKey 1 (some .boolean), .methodLink RX2 54 yX2_in, .static yX2_in, .code yX2_in cX2_in 3 (some .boolean), .methodLink RX2 72 yX2_farOf, .instanceMethod yX2_farOf, .selects RX2 yX2_farOf yX2_farOf, .code yX2_farOf cX2_farOf 7 (some .int), .fieldLink RX2 7 "SevenKeysModel" "as" "[I", .fieldLink RX2 13 "SevenKeysModel" "bs" "[I", .methodLink RX2 69 yX2_size, .static yX2_size, .code yX2_size cX2_size 1 (some .int)] ++ wsX20)
def wsX2_isIn : List Cond := .code yX2_isIn cX2_isIn 3 (some .boolean) :: ([.fieldLink RX2 19 "SevenKeysModel" "sets" "[Z"] ++ wsX20)
def wsX2_many : List Cond := .code yX2_many cX2_many 4 (some .int) :: ([.methodLink RX2 84 yX2_isIn, .instanceMethod yX2_isIn, .selects RX2 yX2_isIn yX2_isIn, .initialized RX2, .code yX2_isIn cX2_isIn 3 (some .boolean), .fieldLink RX2 19 "SevenKeysModel" "sets" "[Z"] ++ wsX20)
def wsX2_put_r1 : List Cond := [Cond.fieldLink RX2 19 "SevenKeysModel" "sets" "[Z", Cond.methodLink RX2 88 yX2_isSlot, Cond.static yX2_isSlot, Cond.initialized RX2, Cond.code yX2_isSlot cX2_isSlot 1 (some .boolean), Cond.methodLink RX2 54 yX2_in, Cond.static yX2_in, Cond.code yX2_in cX2_in 3 (some .boolean), Cond.methodLink RX2 58 yX2_isKey, Cond.static yX2_isKey, Cond.code yX2_isKey cX2_isKey 1 (some .boolean), Cond.methodLink RX2 78 yX2_isLevel, Cond.static yX2_isLevel, Cond.code yX2_isLevel cX2_isLevel 1 (some .boolean), Cond.methodLink RX2 81 yX2_patchOf, Cond.static yX2_patchOf, Cond.code yX2_patchOf cX2_patchOf 2 (some .int), Cond.methodLink RX2 75 yX2_hexes, Cond.static yX2_hexes, Cond.code yX2_hexes cX2_hexes 3 (some .int), Cond.methodLink RX2 91 yX2_many, Cond.instanceMethod yX2_many, Cond.selects RX2 yX2_many yX2_many, Cond.code yX2_many cX2_many 4 (some .int)]
def wsX2_put_r2 : List Cond := [Cond.methodLink RX2 84 yX2_isIn, Cond.instanceMethod yX2_isIn, Cond.selects RX2 yX2_isIn yX2_isIn, Cond.code yX2_isIn cX2_isIn 3 (some .boolean)]
def wsX2_put : List Cond := .code yX2_put cX2_put 7 (some .int) :: ((wsX2_put_r1 ++ wsX2_put_r2) ++ wsX20)
def wsX2_keep : List Cond := .code yX2_keep cX2_keep 3 (some .int) :: ([.fieldLink RX2 19 "SevenKeysModel" "sets" "[Z", .fieldLink RX2 29 "SevenKeysModel" "made" "[Z", .methodLink RX2 91 yX2_many, .instanceMethod yX2_many, .selects RX2 yX2_many yX2_many, .initialized RX2, .code yX2_many cX2_many 4 (some .int), .methodLink RX2 84 yX2_isIn, .instanceMethod yX2_isIn, .selects RX2 yX2_isIn yX2_isIn, .code yX2_isIn cX2_isIn 3 (some .boolean)] ++ wsX20)
def wsX2_disk_r1 : List Cond := [Cond.fieldLink RX2 29 "SevenKeysModel" "made" "[Z", Cond.methodLink RX2 88 yX2_isSlot, Cond.static yX2_isSlot, Cond.initialized RX2, Cond.code yX2_isSlot cX2_isSlot 1 (some .boolean), Cond.methodLink RX2 54 yX2_in, Cond.static yX2_in, Cond.code yX2_in cX2_in 3 (some .boolean), Cond.methodLink RX2 58 yX2_isKey, Cond.static yX2_isKey, Cond.code yX2_isKey cX2_isKey 1 (some .boolean), Cond.methodLink RX2 72 yX2_farOf, Cond.instanceMethod yX2_farOf, Cond.selects RX2 yX2_farOf yX2_farOf, Cond.code yX2_farOf cX2_farOf 7 (some .int), Cond.fieldLink RX2 7 "SevenKeysModel" "as" "[I", Cond.fieldLink RX2 13 "SevenKeysModel" "bs" "[I", Cond.methodLink RX2 69 yX2_size, Cond.static yX2_size, Cond.code yX2_size cX2_size 1 (some .int), Cond.methodLink RX2 94 yX2_keep, Cond.instanceMethod yX2_keep, Cond.selects RX2 yX2_keep yX2_keep, Cond.code yX2_keep cX2_keep 3 (some .int)]
def wsX2_disk_r2 : List Cond := [Cond.fieldLink RX2 19 "SevenKeysModel" "sets" "[Z", Cond.methodLink RX2 91 yX2_many, Cond.instanceMethod yX2_many, Cond.selects RX2 yX2_many yX2_many, Cond.code yX2_many cX2_many 4 (some .int), Cond.methodLink RX2 84 yX2_isIn, Cond.instanceMethod yX2_isIn, Cond.selects RX2 yX2_isIn yX2_isIn, Cond.code yX2_isIn cX2_isIn 3 (some .boolean)]
def wsX2_disk : List Cond := .code yX2_disk cX2_disk 5 (some .int) :: ((wsX2_disk_r1 ++ wsX2_disk_r2) ++ wsX20)
def wsX2_join : List Cond := .code yX2_join cX2_join 8 (some .int) :: ([.fieldLink RX2 29 "SevenKeysModel" "made" "[Z", .methodLink RX2 88 yX2_isSlot, .static yX2_isSlot, .initialized RX2, .code yX2_isSlot cX2_isSlot 1 (some .boolean), .methodLink RX2 54 yX2_in, .static yX2_in, .code yX2_in cX2_in 3 (some .boolean), .methodLink RX2 84 yX2_isIn, .instanceMethod yX2_isIn, .selects RX2 yX2_isIn yX2_isIn, .code yX2_isIn cX2_isIn 3 (some .boolean), .fieldLink RX2 19 "SevenKeysModel" "sets" "[Z", .methodLink RX2 94 yX2_keep, .instanceMethod yX2_keep, .selects RX2 yX2_keep yX2_keep, .code yX2_keep cX2_keep 3 (some .int), .methodLink RX2 91 yX2_many, .instanceMethod yX2_many, .selects RX2 yX2_many yX2_many, .code yX2_many cX2_many 4 (some .int)] ++ wsX20)
def wsX2_nextIn_r1 : List Cond := [Cond.methodLink RX2 66 yX2_nextOf, Cond.instanceMethod yX2_nextOf, Cond.selects RX2 yX2_nextOf yX2_nextOf, Cond.initialized RX2, Cond.code yX2_nextOf cX2_nextOf 3 (some .int), Cond.fieldLink RX2 7 "SevenKeysModel" "as" "[I", Cond.fieldLink RX2 13 "SevenKeysModel" "bs" "[I", Cond.methodLink RX2 47 yX2_sideA, Cond.static yX2_sideA, Cond.code yX2_sideA cX2_sideA 1 (some .int), Cond.methodLink RX2 51 yX2_sideB, Cond.static yX2_sideB, Cond.code yX2_sideB cX2_sideB 1 (some .int), Cond.methodLink RX2 62 yX2_keyAt, Cond.instanceMethod yX2_keyAt, Cond.selects RX2 yX2_keyAt yX2_keyAt, Cond.code yX2_keyAt cX2_keyAt 4 (some .int), Cond.fieldLink RX2 16 "SevenKeysModel" "keys" "[I", Cond.methodLink RX2 54 yX2_in, Cond.static yX2_in, Cond.code yX2_in cX2_in 3 (some .boolean), Cond.methodLink RX2 84 yX2_isIn, Cond.instanceMethod yX2_isIn, Cond.selects RX2 yX2_isIn yX2_isIn]
def wsX2_nextIn_r2 : List Cond := [Cond.code yX2_isIn cX2_isIn 3 (some .boolean), Cond.fieldLink RX2 19 "SevenKeysModel" "sets" "[Z"]
def wsX2_nextIn : List Cond := .code yX2_nextIn cX2_nextIn 6 (some .int) :: ((wsX2_nextIn_r1 ++ wsX2_nextIn_r2) ++ wsX20)
def wsX2_grow_r1 : List Cond := [Cond.fieldLink RX2 29 "SevenKeysModel" "made" "[Z", Cond.methodLink RX2 88 yX2_isSlot, Cond.static yX2_isSlot, Cond.initialized RX2, Cond.code yX2_isSlot cX2_isSlot 1 (some .boolean), Cond.methodLink RX2 54 yX2_in, Cond.static yX2_in, Cond.code yX2_in cX2_in 3 (some .boolean), Cond.methodLink RX2 84 yX2_isIn, Cond.instanceMethod yX2_isIn, Cond.selects RX2 yX2_isIn yX2_isIn, Cond.code yX2_isIn cX2_isIn 3 (some .boolean), Cond.fieldLink RX2 19 "SevenKeysModel" "sets" "[Z", Cond.methodLink RX2 97 yX2_nextIn, Cond.instanceMethod yX2_nextIn, Cond.selects RX2 yX2_nextIn yX2_nextIn, Cond.code yX2_nextIn cX2_nextIn 6 (some .int), Cond.methodLink RX2 66 yX2_nextOf, Cond.instanceMethod yX2_nextOf, Cond.selects RX2 yX2_nextOf yX2_nextOf, Cond.code yX2_nextOf cX2_nextOf 3 (some .int), Cond.fieldLink RX2 7 "SevenKeysModel" "as" "[I", Cond.fieldLink RX2 13 "SevenKeysModel" "bs" "[I", Cond.methodLink RX2 47 yX2_sideA]
def wsX2_grow_r2 : List Cond := [Cond.static yX2_sideA, Cond.code yX2_sideA cX2_sideA 1 (some .int), Cond.methodLink RX2 51 yX2_sideB, Cond.static yX2_sideB, Cond.code yX2_sideB cX2_sideB 1 (some .int), Cond.methodLink RX2 62 yX2_keyAt, Cond.instanceMethod yX2_keyAt, Cond.selects RX2 yX2_keyAt yX2_keyAt, Cond.code yX2_keyAt cX2_keyAt 4 (some .int), Cond.fieldLink RX2 16 "SevenKeysModel" "keys" "[I", Cond.methodLink RX2 94 yX2_keep, Cond.instanceMethod yX2_keep, Cond.selects RX2 yX2_keep yX2_keep, Cond.code yX2_keep cX2_keep 3 (some .int), Cond.methodLink RX2 91 yX2_many, Cond.instanceMethod yX2_many, Cond.selects RX2 yX2_many yX2_many, Cond.code yX2_many cX2_many 4 (some .int)]
def wsX2_grow : List Cond := .code yX2_grow cX2_grow 5 (some .int) :: ((wsX2_grow_r1 ++ wsX2_grow_r2) ++ wsX20)
def wsX2_has : List Cond := .code yX2_has cX2_has 3 (some .int) :: ([.methodLink RX2 88 yX2_isSlot, .static yX2_isSlot, .initialized RX2, .code yX2_isSlot cX2_isSlot 1 (some .boolean), .methodLink RX2 54 yX2_in, .static yX2_in, .code yX2_in cX2_in 3 (some .boolean), .methodLink RX2 58 yX2_isKey, .static yX2_isKey, .code yX2_isKey cX2_isKey 1 (some .boolean), .methodLink RX2 84 yX2_isIn, .instanceMethod yX2_isIn, .selects RX2 yX2_isIn yX2_isIn, .code yX2_isIn cX2_isIn 3 (some .boolean), .fieldLink RX2 19 "SevenKeysModel" "sets" "[Z"] ++ wsX20)
def wsX2_isWhole : List Cond := .code yX2_isWhole cX2_isWhole 6 (some .boolean) :: ([.methodLink RX2 75 yX2_hexes, .static yX2_hexes, .initialized RX2, .code yX2_hexes cX2_hexes 3 (some .int), .methodLink RX2 84 yX2_isIn, .instanceMethod yX2_isIn, .selects RX2 yX2_isIn yX2_isIn, .code yX2_isIn cX2_isIn 3 (some .boolean), .fieldLink RX2 19 "SevenKeysModel" "sets" "[Z"] ++ wsX20)
def wsX2_pack : List Cond := .code yX2_pack cX2_pack 4 none :: ([.fieldLink RX2 100 "SevenKeysModel" "packs" "I", .fieldLink RX2 32 "SevenKeysModel" "patches" "[I", .fieldLink RX2 35 "SevenKeysModel" "levels" "[I", .methodLink RX2 81 yX2_patchOf, .static yX2_patchOf, .initialized RX2, .code yX2_patchOf cX2_patchOf 2 (some .int), .methodLink RX2 75 yX2_hexes, .static yX2_hexes, .code yX2_hexes cX2_hexes 3 (some .int), .methodLink RX2 104 yX2_isWhole, .instanceMethod yX2_isWhole, .selects RX2 yX2_isWhole yX2_isWhole, .code yX2_isWhole cX2_isWhole 6 (some .boolean), .methodLink RX2 84 yX2_isIn, .instanceMethod yX2_isIn, .selects RX2 yX2_isIn yX2_isIn, .code yX2_isIn cX2_isIn 3 (some .boolean), .fieldLink RX2 19 "SevenKeysModel" "sets" "[Z"] ++ wsX20)
def wsX2_border_r1 : List Cond := [Cond.methodLink RX2 84 yX2_isIn, Cond.instanceMethod yX2_isIn, Cond.selects RX2 yX2_isIn yX2_isIn, Cond.initialized RX2, Cond.code yX2_isIn cX2_isIn 3 (some .boolean), Cond.fieldLink RX2 19 "SevenKeysModel" "sets" "[Z", Cond.methodLink RX2 97 yX2_nextIn, Cond.instanceMethod yX2_nextIn, Cond.selects RX2 yX2_nextIn yX2_nextIn, Cond.code yX2_nextIn cX2_nextIn 6 (some .int), Cond.methodLink RX2 66 yX2_nextOf, Cond.instanceMethod yX2_nextOf, Cond.selects RX2 yX2_nextOf yX2_nextOf, Cond.code yX2_nextOf cX2_nextOf 3 (some .int), Cond.fieldLink RX2 7 "SevenKeysModel" "as" "[I", Cond.fieldLink RX2 13 "SevenKeysModel" "bs" "[I", Cond.methodLink RX2 47 yX2_sideA, Cond.static yX2_sideA, Cond.code yX2_sideA cX2_sideA 1 (some .int), Cond.methodLink RX2 51 yX2_sideB, Cond.static yX2_sideB, Cond.code yX2_sideB cX2_sideB 1 (some .int), Cond.methodLink RX2 62 yX2_keyAt, Cond.instanceMethod yX2_keyAt]
def wsX2_border_r2 : List Cond := [Cond.selects RX2 yX2_keyAt yX2_keyAt, Cond.code yX2_keyAt cX2_keyAt 4 (some .int), Cond.fieldLink RX2 16 "SevenKeysModel" "keys" "[I", Cond.methodLink RX2 54 yX2_in, Cond.static yX2_in, Cond.code yX2_in cX2_in 3 (some .boolean)]
def wsX2_border : List Cond := .code yX2_border cX2_border 4 (some .int) :: ((wsX2_border_r1 ++ wsX2_border_r2) ++ wsX20)
def wsX2_spread_r1 : List Cond := [Cond.fieldLink RX2 107 "SevenKeysModel" "open" "I", Cond.fieldLink RX2 44 "SevenKeysModel" "still" "[I", Cond.fieldLink RX2 38 "SevenKeysModel" "pieces" "[I", Cond.fieldLink RX2 41 "SevenKeysModel" "steps" "[I", Cond.methodLink RX2 66 yX2_nextOf, Cond.instanceMethod yX2_nextOf, Cond.selects RX2 yX2_nextOf yX2_nextOf, Cond.initialized RX2, Cond.code yX2_nextOf cX2_nextOf 3 (some .int), Cond.fieldLink RX2 7 "SevenKeysModel" "as" "[I", Cond.fieldLink RX2 13 "SevenKeysModel" "bs" "[I", Cond.methodLink RX2 47 yX2_sideA, Cond.static yX2_sideA, Cond.code yX2_sideA cX2_sideA 1 (some .int), Cond.methodLink RX2 51 yX2_sideB, Cond.static yX2_sideB, Cond.code yX2_sideB cX2_sideB 1 (some .int), Cond.methodLink RX2 62 yX2_keyAt, Cond.instanceMethod yX2_keyAt, Cond.selects RX2 yX2_keyAt yX2_keyAt, Cond.code yX2_keyAt cX2_keyAt 4 (some .int), Cond.fieldLink RX2 16 "SevenKeysModel" "keys" "[I", Cond.methodLink RX2 54 yX2_in, Cond.static yX2_in]
def wsX2_spread_r2 : List Cond := [Cond.code yX2_in cX2_in 3 (some .boolean), Cond.methodLink RX2 84 yX2_isIn, Cond.instanceMethod yX2_isIn, Cond.selects RX2 yX2_isIn yX2_isIn, Cond.code yX2_isIn cX2_isIn 3 (some .boolean), Cond.fieldLink RX2 19 "SevenKeysModel" "sets" "[Z"]
def wsX2_spread : List Cond := .code yX2_spread cX2_spread 7 (some .int) :: ((wsX2_spread_r1 ++ wsX2_spread_r2) ++ wsX20)
def wsX2_clearPieces : List Cond := .code yX2_clearPieces cX2_clearPieces 2 none :: ([.fieldLink RX2 38 "SevenKeysModel" "pieces" "[I"] ++ wsX20)
def wsX2_layPieces_r1 : List Cond := [Cond.fieldLink RX2 113 "SevenKeysModel" "most" "I", Cond.fieldLink RX2 38 "SevenKeysModel" "pieces" "[I", Cond.methodLink RX2 110 yX2_clearPieces, Cond.instanceMethod yX2_clearPieces, Cond.selects RX2 yX2_clearPieces yX2_clearPieces, Cond.initialized RX2, Cond.code yX2_clearPieces cX2_clearPieces 2 none, Cond.methodLink RX2 84 yX2_isIn, Cond.instanceMethod yX2_isIn, Cond.selects RX2 yX2_isIn yX2_isIn, Cond.code yX2_isIn cX2_isIn 3 (some .boolean), Cond.fieldLink RX2 19 "SevenKeysModel" "sets" "[Z", Cond.methodLink RX2 116 yX2_spread, Cond.instanceMethod yX2_spread, Cond.selects RX2 yX2_spread yX2_spread, Cond.code yX2_spread cX2_spread 7 (some .int), Cond.fieldLink RX2 107 "SevenKeysModel" "open" "I", Cond.fieldLink RX2 44 "SevenKeysModel" "still" "[I", Cond.fieldLink RX2 41 "SevenKeysModel" "steps" "[I", Cond.methodLink RX2 66 yX2_nextOf, Cond.instanceMethod yX2_nextOf, Cond.selects RX2 yX2_nextOf yX2_nextOf, Cond.code yX2_nextOf cX2_nextOf 3 (some .int), Cond.fieldLink RX2 7 "SevenKeysModel" "as" "[I"]
def wsX2_layPieces_r2 : List Cond := [Cond.fieldLink RX2 13 "SevenKeysModel" "bs" "[I", Cond.methodLink RX2 47 yX2_sideA, Cond.static yX2_sideA, Cond.code yX2_sideA cX2_sideA 1 (some .int), Cond.methodLink RX2 51 yX2_sideB, Cond.static yX2_sideB, Cond.code yX2_sideB cX2_sideB 1 (some .int), Cond.methodLink RX2 62 yX2_keyAt, Cond.instanceMethod yX2_keyAt, Cond.selects RX2 yX2_keyAt yX2_keyAt, Cond.code yX2_keyAt cX2_keyAt 4 (some .int), Cond.fieldLink RX2 16 "SevenKeysModel" "keys" "[I", Cond.methodLink RX2 54 yX2_in, Cond.static yX2_in, Cond.code yX2_in cX2_in 3 (some .boolean)]
def wsX2_layPieces : List Cond := .code yX2_layPieces cX2_layPieces 5 (some .int) :: ((wsX2_layPieces_r1 ++ wsX2_layPieces_r2) ++ wsX20)
def wsX2_endOf : List Cond := .code yX2_endOf cX2_endOf 6 (some .int) :: ([.methodLink RX2 84 yX2_isIn, .instanceMethod yX2_isIn, .selects RX2 yX2_isIn yX2_isIn, .initialized RX2, .code yX2_isIn cX2_isIn 3 (some .boolean), .fieldLink RX2 19 "SevenKeysModel" "sets" "[Z"] ++ wsX20)
def wsX2_about_r1 : List Cond := [Cond.fieldLink RX2 100 "SevenKeysModel" "packs" "I", Cond.fieldLink RX2 113 "SevenKeysModel" "most" "I", Cond.methodLink RX2 88 yX2_isSlot, Cond.static yX2_isSlot, Cond.initialized RX2, Cond.code yX2_isSlot cX2_isSlot 1 (some .boolean), Cond.methodLink RX2 54 yX2_in, Cond.static yX2_in, Cond.code yX2_in cX2_in 3 (some .boolean), Cond.methodLink RX2 91 yX2_many, Cond.instanceMethod yX2_many, Cond.selects RX2 yX2_many yX2_many, Cond.code yX2_many cX2_many 4 (some .int), Cond.methodLink RX2 84 yX2_isIn, Cond.instanceMethod yX2_isIn, Cond.selects RX2 yX2_isIn yX2_isIn, Cond.code yX2_isIn cX2_isIn 3 (some .boolean), Cond.fieldLink RX2 19 "SevenKeysModel" "sets" "[Z", Cond.methodLink RX2 120 yX2_pack, Cond.instanceMethod yX2_pack, Cond.selects RX2 yX2_pack yX2_pack, Cond.code yX2_pack cX2_pack 4 none, Cond.fieldLink RX2 32 "SevenKeysModel" "patches" "[I", Cond.fieldLink RX2 35 "SevenKeysModel" "levels" "[I"]
def wsX2_about_r2 : List Cond := [Cond.methodLink RX2 81 yX2_patchOf, Cond.static yX2_patchOf, Cond.code yX2_patchOf cX2_patchOf 2 (some .int), Cond.methodLink RX2 75 yX2_hexes, Cond.static yX2_hexes, Cond.code yX2_hexes cX2_hexes 3 (some .int), Cond.methodLink RX2 104 yX2_isWhole, Cond.instanceMethod yX2_isWhole, Cond.selects RX2 yX2_isWhole yX2_isWhole, Cond.code yX2_isWhole cX2_isWhole 6 (some .boolean), Cond.methodLink RX2 124 yX2_border, Cond.instanceMethod yX2_border, Cond.selects RX2 yX2_border yX2_border, Cond.code yX2_border cX2_border 4 (some .int), Cond.methodLink RX2 97 yX2_nextIn, Cond.instanceMethod yX2_nextIn, Cond.selects RX2 yX2_nextIn yX2_nextIn, Cond.code yX2_nextIn cX2_nextIn 6 (some .int), Cond.methodLink RX2 66 yX2_nextOf, Cond.instanceMethod yX2_nextOf, Cond.selects RX2 yX2_nextOf yX2_nextOf, Cond.code yX2_nextOf cX2_nextOf 3 (some .int), Cond.fieldLink RX2 7 "SevenKeysModel" "as" "[I", Cond.fieldLink RX2 13 "SevenKeysModel" "bs" "[I"]
def wsX2_about_r3 : List Cond := [Cond.methodLink RX2 47 yX2_sideA, Cond.static yX2_sideA, Cond.code yX2_sideA cX2_sideA 1 (some .int), Cond.methodLink RX2 51 yX2_sideB, Cond.static yX2_sideB, Cond.code yX2_sideB cX2_sideB 1 (some .int), Cond.methodLink RX2 62 yX2_keyAt, Cond.instanceMethod yX2_keyAt, Cond.selects RX2 yX2_keyAt yX2_keyAt, Cond.code yX2_keyAt cX2_keyAt 4 (some .int), Cond.fieldLink RX2 16 "SevenKeysModel" "keys" "[I", Cond.methodLink RX2 127 yX2_layPieces, Cond.instanceMethod yX2_layPieces, Cond.selects RX2 yX2_layPieces yX2_layPieces, Cond.code yX2_layPieces cX2_layPieces 5 (some .int), Cond.fieldLink RX2 38 "SevenKeysModel" "pieces" "[I", Cond.methodLink RX2 110 yX2_clearPieces, Cond.instanceMethod yX2_clearPieces, Cond.selects RX2 yX2_clearPieces yX2_clearPieces, Cond.code yX2_clearPieces cX2_clearPieces 2 none, Cond.methodLink RX2 116 yX2_spread, Cond.instanceMethod yX2_spread, Cond.selects RX2 yX2_spread yX2_spread, Cond.code yX2_spread cX2_spread 7 (some .int)]
def wsX2_about_r4 : List Cond := [Cond.fieldLink RX2 107 "SevenKeysModel" "open" "I", Cond.fieldLink RX2 44 "SevenKeysModel" "still" "[I", Cond.fieldLink RX2 41 "SevenKeysModel" "steps" "[I", Cond.methodLink RX2 130 yX2_endOf, Cond.instanceMethod yX2_endOf, Cond.selects RX2 yX2_endOf yX2_endOf, Cond.code yX2_endOf cX2_endOf 6 (some .int)]
def wsX2_about : List Cond := .code yX2_about cX2_about 3 (some .int) :: ((wsX2_about_r1 ++ (wsX2_about_r2 ++ (wsX2_about_r3 ++ wsX2_about_r4))) ++ wsX20)
def wsX2_packed_r1 : List Cond := [Cond.fieldLink RX2 100 "SevenKeysModel" "packs" "I", Cond.fieldLink RX2 32 "SevenKeysModel" "patches" "[I", Cond.fieldLink RX2 35 "SevenKeysModel" "levels" "[I", Cond.methodLink RX2 88 yX2_isSlot, Cond.static yX2_isSlot, Cond.initialized RX2, Cond.code yX2_isSlot cX2_isSlot 1 (some .boolean), Cond.methodLink RX2 54 yX2_in, Cond.static yX2_in, Cond.code yX2_in cX2_in 3 (some .boolean), Cond.methodLink RX2 120 yX2_pack, Cond.instanceMethod yX2_pack, Cond.selects RX2 yX2_pack yX2_pack, Cond.code yX2_pack cX2_pack 4 none, Cond.methodLink RX2 81 yX2_patchOf, Cond.static yX2_patchOf, Cond.code yX2_patchOf cX2_patchOf 2 (some .int), Cond.methodLink RX2 75 yX2_hexes, Cond.static yX2_hexes, Cond.code yX2_hexes cX2_hexes 3 (some .int), Cond.methodLink RX2 104 yX2_isWhole, Cond.instanceMethod yX2_isWhole, Cond.selects RX2 yX2_isWhole yX2_isWhole, Cond.code yX2_isWhole cX2_isWhole 6 (some .boolean)]
def wsX2_packed_r2 : List Cond := [Cond.methodLink RX2 84 yX2_isIn, Cond.instanceMethod yX2_isIn, Cond.selects RX2 yX2_isIn yX2_isIn, Cond.code yX2_isIn cX2_isIn 3 (some .boolean), Cond.fieldLink RX2 19 "SevenKeysModel" "sets" "[Z"]
def wsX2_packed : List Cond := .code yX2_packed cX2_packed 4 (some .int) :: ((wsX2_packed_r1 ++ wsX2_packed_r2) ++ wsX20)
def wsX2_piece_r1 : List Cond := [Cond.fieldLink RX2 38 "SevenKeysModel" "pieces" "[I", Cond.methodLink RX2 88 yX2_isSlot, Cond.static yX2_isSlot, Cond.initialized RX2, Cond.code yX2_isSlot cX2_isSlot 1 (some .boolean), Cond.methodLink RX2 54 yX2_in, Cond.static yX2_in, Cond.code yX2_in cX2_in 3 (some .boolean), Cond.methodLink RX2 58 yX2_isKey, Cond.static yX2_isKey, Cond.code yX2_isKey cX2_isKey 1 (some .boolean), Cond.methodLink RX2 127 yX2_layPieces, Cond.instanceMethod yX2_layPieces, Cond.selects RX2 yX2_layPieces yX2_layPieces, Cond.code yX2_layPieces cX2_layPieces 5 (some .int), Cond.fieldLink RX2 113 "SevenKeysModel" "most" "I", Cond.methodLink RX2 110 yX2_clearPieces, Cond.instanceMethod yX2_clearPieces, Cond.selects RX2 yX2_clearPieces yX2_clearPieces, Cond.code yX2_clearPieces cX2_clearPieces 2 none, Cond.methodLink RX2 84 yX2_isIn, Cond.instanceMethod yX2_isIn, Cond.selects RX2 yX2_isIn yX2_isIn, Cond.code yX2_isIn cX2_isIn 3 (some .boolean)]
def wsX2_piece_r2 : List Cond := [Cond.fieldLink RX2 19 "SevenKeysModel" "sets" "[Z", Cond.methodLink RX2 116 yX2_spread, Cond.instanceMethod yX2_spread, Cond.selects RX2 yX2_spread yX2_spread, Cond.code yX2_spread cX2_spread 7 (some .int), Cond.fieldLink RX2 107 "SevenKeysModel" "open" "I", Cond.fieldLink RX2 44 "SevenKeysModel" "still" "[I", Cond.fieldLink RX2 41 "SevenKeysModel" "steps" "[I", Cond.methodLink RX2 66 yX2_nextOf, Cond.instanceMethod yX2_nextOf, Cond.selects RX2 yX2_nextOf yX2_nextOf, Cond.code yX2_nextOf cX2_nextOf 3 (some .int), Cond.fieldLink RX2 7 "SevenKeysModel" "as" "[I", Cond.fieldLink RX2 13 "SevenKeysModel" "bs" "[I", Cond.methodLink RX2 47 yX2_sideA, Cond.static yX2_sideA, Cond.code yX2_sideA cX2_sideA 1 (some .int), Cond.methodLink RX2 51 yX2_sideB, Cond.static yX2_sideB, Cond.code yX2_sideB cX2_sideB 1 (some .int), Cond.methodLink RX2 62 yX2_keyAt, Cond.instanceMethod yX2_keyAt, Cond.selects RX2 yX2_keyAt yX2_keyAt, Cond.code yX2_keyAt cX2_keyAt 4 (some .int)]
def wsX2_piece_r3 : List Cond := [Cond.fieldLink RX2 16 "SevenKeysModel" "keys" "[I"]
def wsX2_piece : List Cond := .code yX2_piece cX2_piece 3 (some .int) :: ((wsX2_piece_r1 ++ (wsX2_piece_r2 ++ wsX2_piece_r3)) ++ wsX20)
def wsX2_way_r1 : List Cond := [Cond.fieldLink RX2 38 "SevenKeysModel" "pieces" "[I", Cond.fieldLink RX2 41 "SevenKeysModel" "steps" "[I", Cond.methodLink RX2 88 yX2_isSlot, Cond.static yX2_isSlot, Cond.initialized RX2, Cond.code yX2_isSlot cX2_isSlot 1 (some .boolean), Cond.methodLink RX2 54 yX2_in, Cond.static yX2_in, Cond.code yX2_in cX2_in 3 (some .boolean), Cond.methodLink RX2 58 yX2_isKey, Cond.static yX2_isKey, Cond.code yX2_isKey cX2_isKey 1 (some .boolean), Cond.methodLink RX2 84 yX2_isIn, Cond.instanceMethod yX2_isIn, Cond.selects RX2 yX2_isIn yX2_isIn, Cond.code yX2_isIn cX2_isIn 3 (some .boolean), Cond.fieldLink RX2 19 "SevenKeysModel" "sets" "[Z", Cond.methodLink RX2 110 yX2_clearPieces, Cond.instanceMethod yX2_clearPieces, Cond.selects RX2 yX2_clearPieces yX2_clearPieces, Cond.code yX2_clearPieces cX2_clearPieces 2 none, Cond.methodLink RX2 116 yX2_spread, Cond.instanceMethod yX2_spread, Cond.selects RX2 yX2_spread yX2_spread]
def wsX2_way_r2 : List Cond := [Cond.code yX2_spread cX2_spread 7 (some .int), Cond.fieldLink RX2 107 "SevenKeysModel" "open" "I", Cond.fieldLink RX2 44 "SevenKeysModel" "still" "[I", Cond.methodLink RX2 66 yX2_nextOf, Cond.instanceMethod yX2_nextOf, Cond.selects RX2 yX2_nextOf yX2_nextOf, Cond.code yX2_nextOf cX2_nextOf 3 (some .int), Cond.fieldLink RX2 7 "SevenKeysModel" "as" "[I", Cond.fieldLink RX2 13 "SevenKeysModel" "bs" "[I", Cond.methodLink RX2 47 yX2_sideA, Cond.static yX2_sideA, Cond.code yX2_sideA cX2_sideA 1 (some .int), Cond.methodLink RX2 51 yX2_sideB, Cond.static yX2_sideB, Cond.code yX2_sideB cX2_sideB 1 (some .int), Cond.methodLink RX2 62 yX2_keyAt, Cond.instanceMethod yX2_keyAt, Cond.selects RX2 yX2_keyAt yX2_keyAt, Cond.code yX2_keyAt cX2_keyAt 4 (some .int), Cond.fieldLink RX2 16 "SevenKeysModel" "keys" "[I"]
def wsX2_way : List Cond := .code yX2_way cX2_way 4 (some .int) :: ((wsX2_way_r1 ++ wsX2_way_r2) ++ wsX20)
def wsX2_alike : List Cond := .code yX2_alike cX2_alike 6 (some .int) :: ([.methodLink RX2 88 yX2_isSlot, .static yX2_isSlot, .initialized RX2, .code yX2_isSlot cX2_isSlot 1 (some .boolean), .methodLink RX2 54 yX2_in, .static yX2_in, .code yX2_in cX2_in 3 (some .boolean), .methodLink RX2 84 yX2_isIn, .instanceMethod yX2_isIn, .selects RX2 yX2_isIn yX2_isIn, .code yX2_isIn cX2_isIn 3 (some .boolean), .fieldLink RX2 19 "SevenKeysModel" "sets" "[Z", .methodLink RX2 91 yX2_many, .instanceMethod yX2_many, .selects RX2 yX2_many yX2_many, .code yX2_many cX2_many 4 (some .int)] ++ wsX20)
def wsX2_copy : List Cond := .code yX2_copy cX2_copy 4 none :: ([.fieldLink RX2 19 "SevenKeysModel" "sets" "[Z", .methodLink RX2 84 yX2_isIn, .instanceMethod yX2_isIn, .selects RX2 yX2_isIn yX2_isIn, .initialized RX2, .code yX2_isIn cX2_isIn 3 (some .boolean)] ++ wsX20)
def wsX2_image : List Cond := .code yX2_image cX2_image 3 (some .int) :: ([.fieldLink RX2 23 "SevenKeysModel" "isKept" "[Z", .methodLink RX2 54 yX2_in, .static yX2_in, .initialized RX2, .code yX2_in cX2_in 3 (some .boolean), .methodLink RX2 134 yX2_copy, .instanceMethod yX2_copy, .selects RX2 yX2_copy yX2_copy, .code yX2_copy cX2_copy 4 none, .fieldLink RX2 19 "SevenKeysModel" "sets" "[Z", .methodLink RX2 84 yX2_isIn, .instanceMethod yX2_isIn, .selects RX2 yX2_isIn yX2_isIn, .code yX2_isIn cX2_isIn 3 (some .boolean)] ++ wsX20)
def wsX2_restore : List Cond := .code yX2_restore cX2_restore 3 (some .int) :: ([.fieldLink RX2 23 "SevenKeysModel" "isKept" "[Z", .methodLink RX2 54 yX2_in, .static yX2_in, .initialized RX2, .code yX2_in cX2_in 3 (some .boolean), .methodLink RX2 134 yX2_copy, .instanceMethod yX2_copy, .selects RX2 yX2_copy yX2_copy, .code yX2_copy cX2_copy 4 none, .fieldLink RX2 19 "SevenKeysModel" "sets" "[Z", .methodLink RX2 84 yX2_isIn, .instanceMethod yX2_isIn, .selects RX2 yX2_isIn yX2_isIn, .code yX2_isIn cX2_isIn 3 (some .boolean)] ++ wsX20)
def wsX2_all : List Cond := .code yX2_all cX2_all 3 (some .int) :: ([.methodLink RX2 84 yX2_isIn, .instanceMethod yX2_isIn, .selects RX2 yX2_isIn yX2_isIn, .initialized RX2, .code yX2_isIn cX2_isIn 3 (some .boolean), .fieldLink RX2 19 "SevenKeysModel" "sets" "[Z"] ++ wsX20)
def wsX2_allPacked : List Cond := .code yX2_allPacked cX2_allPacked 3 (some .int) :: ([.fieldLink RX2 100 "SevenKeysModel" "packs" "I", .methodLink RX2 120 yX2_pack, .instanceMethod yX2_pack, .selects RX2 yX2_pack yX2_pack, .initialized RX2, .code yX2_pack cX2_pack 4 none, .fieldLink RX2 32 "SevenKeysModel" "patches" "[I", .fieldLink RX2 35 "SevenKeysModel" "levels" "[I", .methodLink RX2 81 yX2_patchOf, .static yX2_patchOf, .code yX2_patchOf cX2_patchOf 2 (some .int), .methodLink RX2 75 yX2_hexes, .static yX2_hexes, .code yX2_hexes cX2_hexes 3 (some .int), .methodLink RX2 104 yX2_isWhole, .instanceMethod yX2_isWhole, .selects RX2 yX2_isWhole yX2_isWhole, .code yX2_isWhole cX2_isWhole 6 (some .boolean), .methodLink RX2 84 yX2_isIn, .instanceMethod yX2_isIn, .selects RX2 yX2_isIn yX2_isIn, .code yX2_isIn cX2_isIn 3 (some .boolean), .fieldLink RX2 19 "SevenKeysModel" "sets" "[Z"] ++ wsX20)
def wsX2_count_r1 : List Cond := [Cond.fieldLink RX2 23 "SevenKeysModel" "isKept" "[Z", Cond.methodLink RX2 138 yX2_all, Cond.instanceMethod yX2_all, Cond.selects RX2 yX2_all yX2_all, Cond.initialized RX2, Cond.code yX2_all cX2_all 3 (some .int), Cond.methodLink RX2 84 yX2_isIn, Cond.instanceMethod yX2_isIn, Cond.selects RX2 yX2_isIn yX2_isIn, Cond.code yX2_isIn cX2_isIn 3 (some .boolean), Cond.fieldLink RX2 19 "SevenKeysModel" "sets" "[Z", Cond.methodLink RX2 142 yX2_allPacked, Cond.instanceMethod yX2_allPacked, Cond.selects RX2 yX2_allPacked yX2_allPacked, Cond.code yX2_allPacked cX2_allPacked 3 (some .int), Cond.fieldLink RX2 100 "SevenKeysModel" "packs" "I", Cond.methodLink RX2 120 yX2_pack, Cond.instanceMethod yX2_pack, Cond.selects RX2 yX2_pack yX2_pack, Cond.code yX2_pack cX2_pack 4 none, Cond.fieldLink RX2 32 "SevenKeysModel" "patches" "[I", Cond.fieldLink RX2 35 "SevenKeysModel" "levels" "[I", Cond.methodLink RX2 81 yX2_patchOf, Cond.static yX2_patchOf]
def wsX2_count_r2 : List Cond := [Cond.code yX2_patchOf cX2_patchOf 2 (some .int), Cond.methodLink RX2 75 yX2_hexes, Cond.static yX2_hexes, Cond.code yX2_hexes cX2_hexes 3 (some .int), Cond.methodLink RX2 104 yX2_isWhole, Cond.instanceMethod yX2_isWhole, Cond.selects RX2 yX2_isWhole yX2_isWhole, Cond.code yX2_isWhole cX2_isWhole 6 (some .boolean)]
def wsX2_count : List Cond := .code yX2_count cX2_count 2 (some .int) :: ((wsX2_count_r1 ++ wsX2_count_r2) ++ wsX20)
def wsJ9_abs_0f7a4 : List Cond := .code yJ9_abs_0f7a4 cJ9_abs_0f7a4 1 (some .int) :: ([])
def wsJ9_max_7cf53 : List Cond := .code yJ9_max_7cf53 cJ9_max_7cf53 2 (some .int) :: ([])
abbrev vwCl : List vw_C := [(RX0, TX0, 2), (RX1, TX1, 5), (RX2, TX2, 15)]
end
section
set_option maxRecDepth 20000 in
theorem ggX0_init_J7_fill_53178 : GoodIn wsX0_init wsJ7_fill_53178 := goodIn_r _ [10] (by decide +kernel) (by decide +kernel)
set_option maxRecDepth 20000 in
theorem gX0_init_J7_fill_53178 : GoodIn wsX0_init (va_wsS RX0 18 yJ7_fill_53178 wsJ7_fill_53178) := goodIn_app (goodIn_of _ (by decide +kernel)) ggX0_init_J7_fill_53178
set_option maxRecDepth 20000 in
theorem ggX0_init_X0_cellByFigures : GoodIn wsX0_init wsX0_cellByFigures := goodIn_r _ [14, 15, 16, 17, 18, 19, 20, 21, 13, 22] (by decide +kernel) (by decide +kernel)
set_option maxRecDepth 20000 in
theorem gX0_init_X0_cellByFigures : GoodIn wsX0_init (va_wsS RX0 24 yX0_cellByFigures wsX0_cellByFigures) := goodIn_app (goodIn_of _ (by decide +kernel)) ggX0_init_X0_cellByFigures
theorem dX0_init_0 : decode cX0_init 0 = .ok (.aload_n 0, 1) := by decide +kernel
theorem dX0_init_1 : decode cX0_init 1 = .ok (.invokespecial 3, 3) := by decide +kernel
theorem dX0_init_4 : decode cX0_init 4 = .ok (.aload_n 0, 1) := by decide +kernel
theorem dX0_init_5 : decode cX0_init 5 = .ok (.sipush 2401, 3) := by decide +kernel
theorem dX0_init_8 : decode cX0_init 8 = .ok (.newarray .int, 2) := by decide +kernel
theorem dX0_init_10 : decode cX0_init 10 = .ok (.putfield 9, 3) := by decide +kernel
theorem dX0_init_13 : decode cX0_init 13 = .ok (.aload_n 0, 1) := by decide +kernel
theorem dX0_init_14 : decode cX0_init 14 = .ok (.sipush 4225, 3) := by decide +kernel
theorem dX0_init_17 : decode cX0_init 17 = .ok (.newarray .int, 2) := by decide +kernel
theorem dX0_init_19 : decode cX0_init 19 = .ok (.putfield 15, 3) := by decide +kernel
theorem dX0_init_22 : decode cX0_init 22 = .ok (.aload_n 0, 1) := by decide +kernel
theorem dX0_init_23 : decode cX0_init 23 = .ok (.getfield 15, 3) := by decide +kernel
theorem dX0_init_26 : decode cX0_init 26 = .ok (.bipush (-6), 2) := by decide +kernel
theorem dX0_init_28 : decode cX0_init 28 = .ok (.invokestatic 18, 3) := by decide +kernel
theorem dX0_init_31 : decode cX0_init 31 = .ok (.iconst 0, 1) := by decide +kernel
theorem dX0_init_32 : decode cX0_init 32 = .ok (.istore_n 1, 1) := by decide +kernel
theorem dX0_init_33 : decode cX0_init 33 = .ok (.iload_n 1, 1) := by decide +kernel
theorem dX0_init_34 : decode cX0_init 34 = .ok (.aload_n 0, 1) := by decide +kernel
theorem dX0_init_35 : decode cX0_init 35 = .ok (.getfield 9, 3) := by decide +kernel
theorem dX0_init_38 : decode cX0_init 38 = .ok (.arraylength, 1) := by decide +kernel
theorem dX0_init_39 : decode cX0_init 39 = .ok (.if_icmp .ge 42, 3) := by decide +kernel
theorem dX0_init_42 : decode cX0_init 42 = .ok (.iload_n 1, 1) := by decide +kernel
theorem dX0_init_43 : decode cX0_init 43 = .ok (.invokestatic 24, 3) := by decide +kernel
theorem dX0_init_46 : decode cX0_init 46 = .ok (.istore_n 2, 1) := by decide +kernel
theorem dX0_init_47 : decode cX0_init 47 = .ok (.aload_n 0, 1) := by decide +kernel
theorem dX0_init_48 : decode cX0_init 48 = .ok (.getfield 9, 3) := by decide +kernel
theorem dX0_init_51 : decode cX0_init 51 = .ok (.iload_n 1, 1) := by decide +kernel
theorem dX0_init_52 : decode cX0_init 52 = .ok (.iload_n 2, 1) := by decide +kernel
theorem dX0_init_53 : decode cX0_init 53 = .ok (.iastore, 1) := by decide +kernel
theorem dX0_init_54 : decode cX0_init 54 = .ok (.iconst 0, 1) := by decide +kernel
theorem dX0_init_55 : decode cX0_init 55 = .ok (.iload_n 2, 1) := by decide +kernel
theorem dX0_init_56 : decode cX0_init 56 = .ok (.if_icmp .gt 19, 3) := by decide +kernel
theorem dX0_init_59 : decode cX0_init 59 = .ok (.iload_n 2, 1) := by decide +kernel
theorem dX0_init_60 : decode cX0_init 60 = .ok (.aload_n 0, 1) := by decide +kernel
theorem dX0_init_61 : decode cX0_init 61 = .ok (.getfield 15, 3) := by decide +kernel
theorem dX0_init_64 : decode cX0_init 64 = .ok (.arraylength, 1) := by decide +kernel
theorem dX0_init_65 : decode cX0_init 65 = .ok (.if_icmp .ge 10, 3) := by decide +kernel
theorem dX0_init_68 : decode cX0_init 68 = .ok (.aload_n 0, 1) := by decide +kernel
theorem dX0_init_69 : decode cX0_init 69 = .ok (.getfield 15, 3) := by decide +kernel
theorem dX0_init_72 : decode cX0_init 72 = .ok (.iload_n 2, 1) := by decide +kernel
theorem dX0_init_73 : decode cX0_init 73 = .ok (.iload_n 1, 1) := by decide +kernel
theorem dX0_init_74 : decode cX0_init 74 = .ok (.iastore, 1) := by decide +kernel
theorem dX0_init_75 : decode cX0_init 75 = .ok (.iinc 1 1, 3) := by decide +kernel
theorem dX0_init_78 : decode cX0_init 78 = .ok (.goto (-45), 3) := by decide +kernel
theorem dX0_init_81 : decode cX0_init 81 = .ok (.return_, 1) := by decide +kernel
set_option maxRecDepth 20000 in
theorem ggX0_cellByFigures_X1_valueAt : GoodIn wsX0_cellByFigures wsX1_valueAt := goodIn_r _ [5] (by decide +kernel) (by decide +kernel)
set_option maxRecDepth 20000 in
theorem gX0_cellByFigures_X1_valueAt_n31 : GoodIn wsX0_cellByFigures (wsX1_valueAt) := ggX0_cellByFigures_X1_valueAt
set_option maxRecDepth 20000 in
theorem ggX0_cellByFigures_X0_cellAt : GoodIn wsX0_cellByFigures wsX0_cellAt := goodIn_r _ [9] (by decide +kernel) (by decide +kernel)
set_option maxRecDepth 20000 in
theorem gX0_cellByFigures_X0_cellAt : GoodIn wsX0_cellByFigures (va_wsS RX0 38 yX0_cellAt wsX0_cellAt) := goodIn_app (goodIn_of _ (by decide +kernel)) ggX0_cellByFigures_X0_cellAt
theorem dX0_cellByFigures_0 : decode cX0_cellByFigures 0 = .ok (.iconst 0, 1) := by decide +kernel
theorem dX0_cellByFigures_1 : decode cX0_cellByFigures 1 = .ok (.istore_n 1, 1) := by decide +kernel
theorem dX0_cellByFigures_2 : decode cX0_cellByFigures 2 = .ok (.iconst 0, 1) := by decide +kernel
theorem dX0_cellByFigures_3 : decode cX0_cellByFigures 3 = .ok (.istore_n 2, 1) := by decide +kernel
theorem dX0_cellByFigures_4 : decode cX0_cellByFigures 4 = .ok (.sipush 343, 3) := by decide +kernel
theorem dX0_cellByFigures_7 : decode cX0_cellByFigures 7 = .ok (.istore_n 3, 1) := by decide +kernel
theorem dX0_cellByFigures_8 : decode cX0_cellByFigures 8 = .ok (.iload_n 3, 1) := by decide +kernel
theorem dX0_cellByFigures_9 : decode cX0_cellByFigures 9 = .ok (.ifCond .le 57, 3) := by decide +kernel
theorem dX0_cellByFigures_12 : decode cX0_cellByFigures 12 = .ok (.iload_n 0, 1) := by decide +kernel
theorem dX0_cellByFigures_13 : decode cX0_cellByFigures 13 = .ok (.iload_n 3, 1) := by decide +kernel
theorem dX0_cellByFigures_14 : decode cX0_cellByFigures 14 = .ok (.idiv, 1) := by decide +kernel
theorem dX0_cellByFigures_15 : decode cX0_cellByFigures 15 = .ok (.bipush 7, 2) := by decide +kernel
theorem dX0_cellByFigures_17 : decode cX0_cellByFigures 17 = .ok (.irem, 1) := by decide +kernel
theorem dX0_cellByFigures_18 : decode cX0_cellByFigures 18 = .ok (.istore 4, 2) := by decide +kernel
theorem dX0_cellByFigures_20 : decode cX0_cellByFigures 20 = .ok (.iconst 2, 1) := by decide +kernel
theorem dX0_cellByFigures_21 : decode cX0_cellByFigures 21 = .ok (.iload_n 1, 1) := by decide +kernel
theorem dX0_cellByFigures_22 : decode cX0_cellByFigures 22 = .ok (.imul, 1) := by decide +kernel
theorem dX0_cellByFigures_23 : decode cX0_cellByFigures 23 = .ok (.iload_n 2, 1) := by decide +kernel
theorem dX0_cellByFigures_24 : decode cX0_cellByFigures 24 = .ok (.isub, 1) := by decide +kernel
theorem dX0_cellByFigures_25 : decode cX0_cellByFigures 25 = .ok (.istore 5, 2) := by decide +kernel
theorem dX0_cellByFigures_27 : decode cX0_cellByFigures 27 = .ok (.iload_n 1, 1) := by decide +kernel
theorem dX0_cellByFigures_28 : decode cX0_cellByFigures 28 = .ok (.iconst 3, 1) := by decide +kernel
theorem dX0_cellByFigures_29 : decode cX0_cellByFigures 29 = .ok (.iload_n 2, 1) := by decide +kernel
theorem dX0_cellByFigures_30 : decode cX0_cellByFigures 30 = .ok (.imul, 1) := by decide +kernel
theorem dX0_cellByFigures_31 : decode cX0_cellByFigures 31 = .ok (.iadd, 1) := by decide +kernel
theorem dX0_cellByFigures_32 : decode cX0_cellByFigures 32 = .ok (.istore 6, 2) := by decide +kernel
theorem dX0_cellByFigures_34 : decode cX0_cellByFigures 34 = .ok (.iload 5, 2) := by decide +kernel
theorem dX0_cellByFigures_36 : decode cX0_cellByFigures 36 = .ok (.getstatic 28, 3) := by decide +kernel
theorem dX0_cellByFigures_39 : decode cX0_cellByFigures 39 = .ok (.iload 4, 2) := by decide +kernel
theorem dX0_cellByFigures_41 : decode cX0_cellByFigures 41 = .ok (.invokestatic 31, 3) := by decide +kernel
theorem dX0_cellByFigures_44 : decode cX0_cellByFigures 44 = .ok (.iadd, 1) := by decide +kernel
theorem dX0_cellByFigures_45 : decode cX0_cellByFigures 45 = .ok (.istore_n 1, 1) := by decide +kernel
theorem dX0_cellByFigures_46 : decode cX0_cellByFigures 46 = .ok (.iload 6, 2) := by decide +kernel
theorem dX0_cellByFigures_48 : decode cX0_cellByFigures 48 = .ok (.getstatic 35, 3) := by decide +kernel
theorem dX0_cellByFigures_51 : decode cX0_cellByFigures 51 = .ok (.iload 4, 2) := by decide +kernel
theorem dX0_cellByFigures_53 : decode cX0_cellByFigures 53 = .ok (.invokestatic 31, 3) := by decide +kernel
theorem dX0_cellByFigures_56 : decode cX0_cellByFigures 56 = .ok (.iadd, 1) := by decide +kernel
theorem dX0_cellByFigures_57 : decode cX0_cellByFigures 57 = .ok (.istore_n 2, 1) := by decide +kernel
theorem dX0_cellByFigures_58 : decode cX0_cellByFigures 58 = .ok (.iload_n 3, 1) := by decide +kernel
theorem dX0_cellByFigures_59 : decode cX0_cellByFigures 59 = .ok (.bipush 7, 2) := by decide +kernel
theorem dX0_cellByFigures_61 : decode cX0_cellByFigures 61 = .ok (.idiv, 1) := by decide +kernel
theorem dX0_cellByFigures_62 : decode cX0_cellByFigures 62 = .ok (.istore_n 3, 1) := by decide +kernel
theorem dX0_cellByFigures_63 : decode cX0_cellByFigures 63 = .ok (.goto (-55), 3) := by decide +kernel
theorem dX0_cellByFigures_66 : decode cX0_cellByFigures 66 = .ok (.iload_n 1, 1) := by decide +kernel
theorem dX0_cellByFigures_67 : decode cX0_cellByFigures 67 = .ok (.iload_n 2, 1) := by decide +kernel
theorem dX0_cellByFigures_68 : decode cX0_cellByFigures 68 = .ok (.invokestatic 38, 3) := by decide +kernel
theorem dX0_cellByFigures_71 : decode cX0_cellByFigures 71 = .ok (.ireturn, 1) := by decide +kernel
theorem dX0_cellAt_0 : decode cX0_cellAt 0 = .ok (.iload_n 0, 1) := by decide +kernel
theorem dX0_cellAt_1 : decode cX0_cellAt 1 = .ok (.bipush 32, 2) := by decide +kernel
theorem dX0_cellAt_3 : decode cX0_cellAt 3 = .ok (.iadd, 1) := by decide +kernel
theorem dX0_cellAt_4 : decode cX0_cellAt 4 = .ok (.bipush 65, 2) := by decide +kernel
theorem dX0_cellAt_6 : decode cX0_cellAt 6 = .ok (.imul, 1) := by decide +kernel
theorem dX0_cellAt_7 : decode cX0_cellAt 7 = .ok (.iload_n 1, 1) := by decide +kernel
theorem dX0_cellAt_8 : decode cX0_cellAt 8 = .ok (.iadd, 1) := by decide +kernel
theorem dX0_cellAt_9 : decode cX0_cellAt 9 = .ok (.bipush 32, 2) := by decide +kernel
theorem dX0_cellAt_11 : decode cX0_cellAt 11 = .ok (.iadd, 1) := by decide +kernel
theorem dX0_cellAt_12 : decode cX0_cellAt 12 = .ok (.ireturn, 1) := by decide +kernel
set_option maxRecDepth 20000 in
theorem ggX0_pointA_X1_valueAt : GoodIn wsX0_pointA wsX1_valueAt := goodIn_r _ [4] (by decide +kernel) (by decide +kernel)
set_option maxRecDepth 20000 in
theorem gX0_pointA_X1_valueAt_n31 : GoodIn wsX0_pointA (wsX1_valueAt) := ggX0_pointA_X1_valueAt
theorem dX0_pointA_0 : decode cX0_pointA 0 = .ok (.aload_n 0, 1) := by decide +kernel
theorem dX0_pointA_1 : decode cX0_pointA 1 = .ok (.getfield 9, 3) := by decide +kernel
theorem dX0_pointA_4 : decode cX0_pointA 4 = .ok (.iload_n 1, 1) := by decide +kernel
theorem dX0_pointA_5 : decode cX0_pointA 5 = .ok (.invokestatic 31, 3) := by decide +kernel
theorem dX0_pointA_8 : decode cX0_pointA 8 = .ok (.bipush 65, 2) := by decide +kernel
theorem dX0_pointA_10 : decode cX0_pointA 10 = .ok (.idiv, 1) := by decide +kernel
theorem dX0_pointA_11 : decode cX0_pointA 11 = .ok (.bipush 32, 2) := by decide +kernel
theorem dX0_pointA_13 : decode cX0_pointA 13 = .ok (.isub, 1) := by decide +kernel
theorem dX0_pointA_14 : decode cX0_pointA 14 = .ok (.ireturn, 1) := by decide +kernel
set_option maxRecDepth 20000 in
theorem ggX0_pointB_X1_valueAt : GoodIn wsX0_pointB wsX1_valueAt := goodIn_r _ [4] (by decide +kernel) (by decide +kernel)
set_option maxRecDepth 20000 in
theorem gX0_pointB_X1_valueAt_n31 : GoodIn wsX0_pointB (wsX1_valueAt) := ggX0_pointB_X1_valueAt
theorem dX0_pointB_0 : decode cX0_pointB 0 = .ok (.aload_n 0, 1) := by decide +kernel
theorem dX0_pointB_1 : decode cX0_pointB 1 = .ok (.getfield 9, 3) := by decide +kernel
theorem dX0_pointB_4 : decode cX0_pointB 4 = .ok (.iload_n 1, 1) := by decide +kernel
theorem dX0_pointB_5 : decode cX0_pointB 5 = .ok (.invokestatic 31, 3) := by decide +kernel
theorem dX0_pointB_8 : decode cX0_pointB 8 = .ok (.bipush 65, 2) := by decide +kernel
theorem dX0_pointB_10 : decode cX0_pointB 10 = .ok (.irem, 1) := by decide +kernel
theorem dX0_pointB_11 : decode cX0_pointB 11 = .ok (.bipush 32, 2) := by decide +kernel
theorem dX0_pointB_13 : decode cX0_pointB 13 = .ok (.isub, 1) := by decide +kernel
theorem dX0_pointB_14 : decode cX0_pointB 14 = .ok (.ireturn, 1) := by decide +kernel
set_option maxRecDepth 20000 in
theorem ggX0_keyOf_X1_within : GoodIn wsX0_keyOf wsX1_within := goodIn_r _ [4] (by decide +kernel) (by decide +kernel)
set_option maxRecDepth 20000 in
theorem gX0_keyOf_X1_within_n42 : GoodIn wsX0_keyOf (wsX1_within) := ggX0_keyOf_X1_within
set_option maxRecDepth 20000 in
theorem ggX0_keyOf_X0_cellAt : GoodIn wsX0_keyOf wsX0_cellAt := goodIn_r _ [8] (by decide +kernel) (by decide +kernel)
set_option maxRecDepth 20000 in
theorem gX0_keyOf_X0_cellAt : GoodIn wsX0_keyOf (va_wsS RX0 38 yX0_cellAt wsX0_cellAt) := goodIn_app (goodIn_of _ (by decide +kernel)) ggX0_keyOf_X0_cellAt
set_option maxRecDepth 20000 in
theorem ggX0_keyOf_X1_valueAt : GoodIn wsX0_keyOf wsX1_valueAt := goodIn_r _ [10] (by decide +kernel) (by decide +kernel)
set_option maxRecDepth 20000 in
theorem gX0_keyOf_X1_valueAt_n31 : GoodIn wsX0_keyOf (wsX1_valueAt) := ggX0_keyOf_X1_valueAt
theorem dX0_keyOf_0 : decode cX0_keyOf 0 = .ok (.iload_n 1, 1) := by decide +kernel
theorem dX0_keyOf_1 : decode cX0_keyOf 1 = .ok (.bipush (-32), 2) := by decide +kernel
theorem dX0_keyOf_3 : decode cX0_keyOf 3 = .ok (.bipush 32, 2) := by decide +kernel
theorem dX0_keyOf_5 : decode cX0_keyOf 5 = .ok (.invokestatic 42, 3) := by decide +kernel
theorem dX0_keyOf_8 : decode cX0_keyOf 8 = .ok (.ifCond .eq 14, 3) := by decide +kernel
theorem dX0_keyOf_11 : decode cX0_keyOf 11 = .ok (.iload_n 2, 1) := by decide +kernel
theorem dX0_keyOf_12 : decode cX0_keyOf 12 = .ok (.bipush (-32), 2) := by decide +kernel
theorem dX0_keyOf_14 : decode cX0_keyOf 14 = .ok (.bipush 32, 2) := by decide +kernel
theorem dX0_keyOf_16 : decode cX0_keyOf 16 = .ok (.invokestatic 42, 3) := by decide +kernel
theorem dX0_keyOf_19 : decode cX0_keyOf 19 = .ok (.ifCond .ne 6, 3) := by decide +kernel
theorem dX0_keyOf_22 : decode cX0_keyOf 22 = .ok (.bipush (-6), 2) := by decide +kernel
theorem dX0_keyOf_24 : decode cX0_keyOf 24 = .ok (.ireturn, 1) := by decide +kernel
theorem dX0_keyOf_25 : decode cX0_keyOf 25 = .ok (.aload_n 0, 1) := by decide +kernel
theorem dX0_keyOf_26 : decode cX0_keyOf 26 = .ok (.getfield 15, 3) := by decide +kernel
theorem dX0_keyOf_29 : decode cX0_keyOf 29 = .ok (.iload_n 1, 1) := by decide +kernel
theorem dX0_keyOf_30 : decode cX0_keyOf 30 = .ok (.iload_n 2, 1) := by decide +kernel
theorem dX0_keyOf_31 : decode cX0_keyOf 31 = .ok (.invokestatic 38, 3) := by decide +kernel
theorem dX0_keyOf_34 : decode cX0_keyOf 34 = .ok (.invokestatic 31, 3) := by decide +kernel
theorem dX0_keyOf_37 : decode cX0_keyOf 37 = .ok (.ireturn, 1) := by decide +kernel
set_option maxRecDepth 20000 in
theorem ggX0_neighbour_X1_valueAt : GoodIn wsX0_neighbour wsX1_valueAt := goodIn_r _ [6] (by decide +kernel) (by decide +kernel)
set_option maxRecDepth 20000 in
theorem gX0_neighbour_X1_valueAt_n31 : GoodIn wsX0_neighbour (wsX1_valueAt) := ggX0_neighbour_X1_valueAt
theorem dX0_neighbour_0 : decode cX0_neighbour 0 = .ok (.aload_n 0, 1) := by decide +kernel
theorem dX0_neighbour_1 : decode cX0_neighbour 1 = .ok (.getfield 15, 3) := by decide +kernel
theorem dX0_neighbour_4 : decode cX0_neighbour 4 = .ok (.aload_n 0, 1) := by decide +kernel
theorem dX0_neighbour_5 : decode cX0_neighbour 5 = .ok (.getfield 9, 3) := by decide +kernel
theorem dX0_neighbour_8 : decode cX0_neighbour 8 = .ok (.iload_n 1, 1) := by decide +kernel
theorem dX0_neighbour_9 : decode cX0_neighbour 9 = .ok (.invokestatic 31, 3) := by decide +kernel
theorem dX0_neighbour_12 : decode cX0_neighbour 12 = .ok (.getstatic 46, 3) := by decide +kernel
theorem dX0_neighbour_15 : decode cX0_neighbour 15 = .ok (.iload_n 2, 1) := by decide +kernel
theorem dX0_neighbour_16 : decode cX0_neighbour 16 = .ok (.invokestatic 31, 3) := by decide +kernel
theorem dX0_neighbour_19 : decode cX0_neighbour 19 = .ok (.iadd, 1) := by decide +kernel
theorem dX0_neighbour_20 : decode cX0_neighbour 20 = .ok (.invokestatic 31, 3) := by decide +kernel
theorem dX0_neighbour_23 : decode cX0_neighbour 23 = .ok (.ireturn, 1) := by decide +kernel
set_option maxRecDepth 20000 in
theorem ggX0_stepsApart_X0_pointA : GoodIn wsX0_stepsApart wsX0_pointA := goodIn_r _ [12, 13, 14, 15, 16, 21, 22] (by decide +kernel) (by decide +kernel)
set_option maxRecDepth 20000 in
theorem gX0_stepsApart_X0_pointA : GoodIn wsX0_stepsApart (wsV RX0 49 RX0 yX0_pointA wsX0_pointA) := goodIn_app (goodIn_of _ (by decide +kernel)) ggX0_stepsApart_X0_pointA
set_option maxRecDepth 20000 in
theorem ggX0_stepsApart_X0_pointB : GoodIn wsX0_stepsApart wsX0_pointB := goodIn_r _ [20, 13, 14, 15, 16, 21, 22] (by decide +kernel) (by decide +kernel)
set_option maxRecDepth 20000 in
theorem gX0_stepsApart_X0_pointB : GoodIn wsX0_stepsApart (wsV RX0 52 RX0 yX0_pointB wsX0_pointB) := goodIn_app (goodIn_of _ (by decide +kernel)) ggX0_stepsApart_X0_pointB
theorem dX0_stepsApart_0 : decode cX0_stepsApart 0 = .ok (.aload_n 0, 1) := by decide +kernel
theorem dX0_stepsApart_1 : decode cX0_stepsApart 1 = .ok (.iload_n 1, 1) := by decide +kernel
theorem dX0_stepsApart_2 : decode cX0_stepsApart 2 = .ok (.invokevirtual 49, 3) := by decide +kernel
theorem dX0_stepsApart_5 : decode cX0_stepsApart 5 = .ok (.aload_n 0, 1) := by decide +kernel
theorem dX0_stepsApart_6 : decode cX0_stepsApart 6 = .ok (.iload_n 2, 1) := by decide +kernel
theorem dX0_stepsApart_7 : decode cX0_stepsApart 7 = .ok (.invokevirtual 49, 3) := by decide +kernel
theorem dX0_stepsApart_10 : decode cX0_stepsApart 10 = .ok (.isub, 1) := by decide +kernel
theorem dX0_stepsApart_11 : decode cX0_stepsApart 11 = .ok (.istore_n 3, 1) := by decide +kernel
theorem dX0_stepsApart_12 : decode cX0_stepsApart 12 = .ok (.aload_n 0, 1) := by decide +kernel
theorem dX0_stepsApart_13 : decode cX0_stepsApart 13 = .ok (.iload_n 1, 1) := by decide +kernel
theorem dX0_stepsApart_14 : decode cX0_stepsApart 14 = .ok (.invokevirtual 52, 3) := by decide +kernel
theorem dX0_stepsApart_17 : decode cX0_stepsApart 17 = .ok (.aload_n 0, 1) := by decide +kernel
theorem dX0_stepsApart_18 : decode cX0_stepsApart 18 = .ok (.iload_n 2, 1) := by decide +kernel
theorem dX0_stepsApart_19 : decode cX0_stepsApart 19 = .ok (.invokevirtual 52, 3) := by decide +kernel
theorem dX0_stepsApart_22 : decode cX0_stepsApart 22 = .ok (.isub, 1) := by decide +kernel
theorem dX0_stepsApart_23 : decode cX0_stepsApart 23 = .ok (.istore 4, 2) := by decide +kernel
theorem dX0_stepsApart_25 : decode cX0_stepsApart 25 = .ok (.iload_n 3, 1) := by decide +kernel
theorem dX0_stepsApart_26 : decode cX0_stepsApart 26 = .ok (.invokestatic 55, 3) := by decide +kernel
theorem dX0_stepsApart_29 : decode cX0_stepsApart 29 = .ok (.iload 4, 2) := by decide +kernel
theorem dX0_stepsApart_31 : decode cX0_stepsApart 31 = .ok (.invokestatic 55, 3) := by decide +kernel
theorem dX0_stepsApart_34 : decode cX0_stepsApart 34 = .ok (.invokestatic 60, 3) := by decide +kernel
theorem dX0_stepsApart_37 : decode cX0_stepsApart 37 = .ok (.iload_n 3, 1) := by decide +kernel
theorem dX0_stepsApart_38 : decode cX0_stepsApart 38 = .ok (.iload 4, 2) := by decide +kernel
theorem dX0_stepsApart_40 : decode cX0_stepsApart 40 = .ok (.iadd, 1) := by decide +kernel
theorem dX0_stepsApart_41 : decode cX0_stepsApart 41 = .ok (.invokestatic 55, 3) := by decide +kernel
theorem dX0_stepsApart_44 : decode cX0_stepsApart 44 = .ok (.invokestatic 60, 3) := by decide +kernel
theorem dX0_stepsApart_47 : decode cX0_stepsApart 47 = .ok (.ireturn, 1) := by decide +kernel
set_option maxRecDepth 20000 in
theorem ggX1_init_X0_init : GoodIn wsX1_init wsX0_init := goodIn_r _ [15, 16, 2, 3, 8, 17, 18, 19, 20, 21, 22, 23, 24, 6, 25, 26, 27, 28, 29, 30, 31, 32, 33, 34, 35] (by decide +kernel) (by decide +kernel)
set_option maxRecDepth 20000 in
theorem gX1_init_X0_init : GoodIn wsX1_init (wsX0_init) := ggX1_init_X0_init
theorem dX1_init_0 : decode cX1_init 0 = .ok (.aload_n 0, 1) := by decide +kernel
theorem dX1_init_1 : decode cX1_init 1 = .ok (.invokespecial 1, 3) := by decide +kernel
theorem dX1_init_4 : decode cX1_init 4 = .ok (.aload_n 0, 1) := by decide +kernel
theorem dX1_init_5 : decode cX1_init 5 = .ok (.new 7, 3) := by decide +kernel
theorem dX1_init_8 : decode cX1_init 8 = .ok (.dup, 1) := by decide +kernel
theorem dX1_init_9 : decode cX1_init 9 = .ok (.invokespecial 9, 3) := by decide +kernel
theorem dX1_init_12 : decode cX1_init 12 = .ok (.putfield 10, 3) := by decide +kernel
theorem dX1_init_15 : decode cX1_init 15 = .ok (.aload_n 0, 1) := by decide +kernel
theorem dX1_init_16 : decode cX1_init 16 = .ok (.sipush 2401, 3) := by decide +kernel
theorem dX1_init_19 : decode cX1_init 19 = .ok (.newarray .int, 2) := by decide +kernel
theorem dX1_init_21 : decode cX1_init 21 = .ok (.putfield 16, 3) := by decide +kernel
theorem dX1_init_24 : decode cX1_init 24 = .ok (.aload_n 0, 1) := by decide +kernel
theorem dX1_init_25 : decode cX1_init 25 = .ok (.iconst 0, 1) := by decide +kernel
theorem dX1_init_26 : decode cX1_init 26 = .ok (.putfield 20, 3) := by decide +kernel
theorem dX1_init_29 : decode cX1_init 29 = .ok (.aload_n 0, 1) := by decide +kernel
theorem dX1_init_30 : decode cX1_init 30 = .ok (.sipush 2401, 3) := by decide +kernel
theorem dX1_init_33 : decode cX1_init 33 = .ok (.newarray .int, 2) := by decide +kernel
theorem dX1_init_35 : decode cX1_init 35 = .ok (.putfield 24, 3) := by decide +kernel
theorem dX1_init_38 : decode cX1_init 38 = .ok (.aload_n 0, 1) := by decide +kernel
theorem dX1_init_39 : decode cX1_init 39 = .ok (.sipush 2401, 3) := by decide +kernel
theorem dX1_init_42 : decode cX1_init 42 = .ok (.newarray .int, 2) := by decide +kernel
theorem dX1_init_44 : decode cX1_init 44 = .ok (.putfield 27, 3) := by decide +kernel
theorem dX1_init_47 : decode cX1_init 47 = .ok (.return_, 1) := by decide +kernel
set_option maxRecDepth 20000 in
theorem ggX1_point_X1_isKey : GoodIn wsX1_point wsX1_isKey := goodIn_r _ [5, 6, 7, 4, 8] (by decide +kernel) (by decide +kernel)
set_option maxRecDepth 20000 in
theorem gX1_point_X1_isKey : GoodIn wsX1_point (va_wsS RX1 30 yX1_isKey wsX1_isKey) := goodIn_app (goodIn_of _ (by decide +kernel)) ggX1_point_X1_isKey
set_option maxRecDepth 20000 in
theorem ggX1_point_X1_within : GoodIn wsX1_point wsX1_within := goodIn_r _ [8] (by decide +kernel) (by decide +kernel)
set_option maxRecDepth 20000 in
theorem gX1_point_X1_within : GoodIn wsX1_point (va_wsS RX1 34 yX1_within wsX1_within) := goodIn_app (goodIn_of _ (by decide +kernel)) ggX1_point_X1_within
set_option maxRecDepth 20000 in
theorem ggX1_point_X0_pointA : GoodIn wsX1_point wsX0_pointA := goodIn_r _ [13, 14, 15, 4, 16, 26, 27] (by decide +kernel) (by decide +kernel)
set_option maxRecDepth 20000 in
theorem gX1_point_X0_pointA : GoodIn wsX1_point (wsV RX1 38 RX0 yX0_pointA wsX0_pointA) := goodIn_app (goodIn_of _ (by decide +kernel)) ggX1_point_X0_pointA
set_option maxRecDepth 20000 in
theorem ggX1_point_X0_pointB : GoodIn wsX1_point wsX0_pointB := goodIn_r _ [20, 14, 15, 4, 16, 26, 27] (by decide +kernel) (by decide +kernel)
set_option maxRecDepth 20000 in
theorem gX1_point_X0_pointB : GoodIn wsX1_point (wsV RX1 42 RX0 yX0_pointB wsX0_pointB) := goodIn_app (goodIn_of _ (by decide +kernel)) ggX1_point_X0_pointB
theorem dX1_point_0 : decode cX1_point 0 = .ok (.iload_n 1, 1) := by decide +kernel
theorem dX1_point_1 : decode cX1_point 1 = .ok (.invokestatic 30, 3) := by decide +kernel
theorem dX1_point_4 : decode cX1_point 4 = .ok (.ifCond .eq 12, 3) := by decide +kernel
theorem dX1_point_7 : decode cX1_point 7 = .ok (.iload_n 2, 1) := by decide +kernel
theorem dX1_point_8 : decode cX1_point 8 = .ok (.iconst 0, 1) := by decide +kernel
theorem dX1_point_9 : decode cX1_point 9 = .ok (.iconst 1, 1) := by decide +kernel
theorem dX1_point_10 : decode cX1_point 10 = .ok (.invokestatic 34, 3) := by decide +kernel
theorem dX1_point_13 : decode cX1_point 13 = .ok (.ifCond .ne 6, 3) := by decide +kernel
theorem dX1_point_16 : decode cX1_point 16 = .ok (.bipush (-2), 2) := by decide +kernel
theorem dX1_point_18 : decode cX1_point 18 = .ok (.ireturn, 1) := by decide +kernel
theorem dX1_point_19 : decode cX1_point 19 = .ok (.sipush 1000, 3) := by decide +kernel
theorem dX1_point_22 : decode cX1_point 22 = .ok (.iload_n 2, 1) := by decide +kernel
theorem dX1_point_23 : decode cX1_point 23 = .ok (.ifCond .ne 14, 3) := by decide +kernel
theorem dX1_point_26 : decode cX1_point 26 = .ok (.aload_n 0, 1) := by decide +kernel
theorem dX1_point_27 : decode cX1_point 27 = .ok (.getfield 10, 3) := by decide +kernel
theorem dX1_point_30 : decode cX1_point 30 = .ok (.iload_n 1, 1) := by decide +kernel
theorem dX1_point_31 : decode cX1_point 31 = .ok (.invokevirtual 38, 3) := by decide +kernel
theorem dX1_point_34 : decode cX1_point 34 = .ok (.goto 11, 3) := by decide +kernel
theorem dX1_point_37 : decode cX1_point 37 = .ok (.aload_n 0, 1) := by decide +kernel
theorem dX1_point_38 : decode cX1_point 38 = .ok (.getfield 10, 3) := by decide +kernel
theorem dX1_point_41 : decode cX1_point 41 = .ok (.iload_n 1, 1) := by decide +kernel
theorem dX1_point_42 : decode cX1_point 42 = .ok (.invokevirtual 42, 3) := by decide +kernel
theorem dX1_point_45 : decode cX1_point 45 = .ok (.iadd, 1) := by decide +kernel
theorem dX1_point_46 : decode cX1_point 46 = .ok (.ireturn, 1) := by decide +kernel
set_option maxRecDepth 20000 in
theorem ggX1_key_X1_within : GoodIn wsX1_key wsX1_within := goodIn_r _ [5] (by decide +kernel) (by decide +kernel)
set_option maxRecDepth 20000 in
theorem gX1_key_X1_within : GoodIn wsX1_key (va_wsS RX1 34 yX1_within wsX1_within) := goodIn_app (goodIn_of _ (by decide +kernel)) ggX1_key_X1_within
set_option maxRecDepth 20000 in
theorem ggX1_key_X0_keyOf : GoodIn wsX1_key wsX0_keyOf := goodIn_r _ [10, 11, 3, 4, 5, 12, 13, 9, 14, 15, 16, 22, 23] (by decide +kernel) (by decide +kernel)
set_option maxRecDepth 20000 in
theorem gX1_key_X0_keyOf : GoodIn wsX1_key (wsV RX1 45 RX0 yX0_keyOf wsX0_keyOf) := goodIn_app (goodIn_of _ (by decide +kernel)) ggX1_key_X0_keyOf
theorem dX1_key_0 : decode cX1_key 0 = .ok (.iload_n 1, 1) := by decide +kernel
theorem dX1_key_1 : decode cX1_key 1 = .ok (.bipush (-100), 2) := by decide +kernel
theorem dX1_key_3 : decode cX1_key 3 = .ok (.bipush 100, 2) := by decide +kernel
theorem dX1_key_5 : decode cX1_key 5 = .ok (.invokestatic 34, 3) := by decide +kernel
theorem dX1_key_8 : decode cX1_key 8 = .ok (.ifCond .eq 14, 3) := by decide +kernel
theorem dX1_key_11 : decode cX1_key 11 = .ok (.iload_n 2, 1) := by decide +kernel
theorem dX1_key_12 : decode cX1_key 12 = .ok (.bipush (-100), 2) := by decide +kernel
theorem dX1_key_14 : decode cX1_key 14 = .ok (.bipush 100, 2) := by decide +kernel
theorem dX1_key_16 : decode cX1_key 16 = .ok (.invokestatic 34, 3) := by decide +kernel
theorem dX1_key_19 : decode cX1_key 19 = .ok (.ifCond .ne 6, 3) := by decide +kernel
theorem dX1_key_22 : decode cX1_key 22 = .ok (.bipush (-2), 2) := by decide +kernel
theorem dX1_key_24 : decode cX1_key 24 = .ok (.ireturn, 1) := by decide +kernel
theorem dX1_key_25 : decode cX1_key 25 = .ok (.aload_n 0, 1) := by decide +kernel
theorem dX1_key_26 : decode cX1_key 26 = .ok (.getfield 10, 3) := by decide +kernel
theorem dX1_key_29 : decode cX1_key 29 = .ok (.iload_n 1, 1) := by decide +kernel
theorem dX1_key_30 : decode cX1_key 30 = .ok (.iload_n 2, 1) := by decide +kernel
theorem dX1_key_31 : decode cX1_key 31 = .ok (.invokevirtual 45, 3) := by decide +kernel
theorem dX1_key_34 : decode cX1_key 34 = .ok (.ireturn, 1) := by decide +kernel
set_option maxRecDepth 20000 in
theorem ggX1_next_X1_isKey : GoodIn wsX1_next wsX1_isKey := goodIn_r _ [5, 6, 7, 4, 8] (by decide +kernel) (by decide +kernel)
set_option maxRecDepth 20000 in
theorem gX1_next_X1_isKey : GoodIn wsX1_next (va_wsS RX1 30 yX1_isKey wsX1_isKey) := goodIn_app (goodIn_of _ (by decide +kernel)) ggX1_next_X1_isKey
set_option maxRecDepth 20000 in
theorem ggX1_next_X1_within : GoodIn wsX1_next wsX1_within := goodIn_r _ [8] (by decide +kernel) (by decide +kernel)
set_option maxRecDepth 20000 in
theorem gX1_next_X1_within : GoodIn wsX1_next (va_wsS RX1 34 yX1_within wsX1_within) := goodIn_app (goodIn_of _ (by decide +kernel)) ggX1_next_X1_within
set_option maxRecDepth 20000 in
theorem ggX1_next_X0_neighbour : GoodIn wsX1_next wsX0_neighbour := goodIn_r _ [13, 14, 15, 16, 17, 4, 18, 24, 25] (by decide +kernel) (by decide +kernel)
set_option maxRecDepth 20000 in
theorem gX1_next_X0_neighbour : GoodIn wsX1_next (wsV RX1 49 RX0 yX0_neighbour wsX0_neighbour) := goodIn_app (goodIn_of _ (by decide +kernel)) ggX1_next_X0_neighbour
theorem dX1_next_0 : decode cX1_next 0 = .ok (.iload_n 1, 1) := by decide +kernel
theorem dX1_next_1 : decode cX1_next 1 = .ok (.invokestatic 30, 3) := by decide +kernel
theorem dX1_next_4 : decode cX1_next 4 = .ok (.ifCond .eq 13, 3) := by decide +kernel
theorem dX1_next_7 : decode cX1_next 7 = .ok (.iload_n 2, 1) := by decide +kernel
theorem dX1_next_8 : decode cX1_next 8 = .ok (.iconst 1, 1) := by decide +kernel
theorem dX1_next_9 : decode cX1_next 9 = .ok (.bipush 6, 2) := by decide +kernel
theorem dX1_next_11 : decode cX1_next 11 = .ok (.invokestatic 34, 3) := by decide +kernel
theorem dX1_next_14 : decode cX1_next 14 = .ok (.ifCond .ne 6, 3) := by decide +kernel
theorem dX1_next_17 : decode cX1_next 17 = .ok (.bipush (-2), 2) := by decide +kernel
theorem dX1_next_19 : decode cX1_next 19 = .ok (.ireturn, 1) := by decide +kernel
theorem dX1_next_20 : decode cX1_next 20 = .ok (.aload_n 0, 1) := by decide +kernel
theorem dX1_next_21 : decode cX1_next 21 = .ok (.getfield 10, 3) := by decide +kernel
theorem dX1_next_24 : decode cX1_next 24 = .ok (.iload_n 1, 1) := by decide +kernel
theorem dX1_next_25 : decode cX1_next 25 = .ok (.iload_n 2, 1) := by decide +kernel
theorem dX1_next_26 : decode cX1_next 26 = .ok (.invokevirtual 49, 3) := by decide +kernel
theorem dX1_next_29 : decode cX1_next 29 = .ok (.ireturn, 1) := by decide +kernel
set_option maxRecDepth 20000 in
theorem ggX1_far_X1_isKey : GoodIn wsX1_far wsX1_isKey := goodIn_r _ [5, 6, 7, 4, 8] (by decide +kernel) (by decide +kernel)
set_option maxRecDepth 20000 in
theorem gX1_far_X1_isKey : GoodIn wsX1_far (va_wsS RX1 30 yX1_isKey wsX1_isKey) := goodIn_app (goodIn_of _ (by decide +kernel)) ggX1_far_X1_isKey
set_option maxRecDepth 20000 in
theorem ggX1_far_X0_stepsApart : GoodIn wsX1_far wsX0_stepsApart := goodIn_r _ [13, 14, 15, 16, 17, 18, 19, 20, 21, 22, 23, 12, 24, 25, 26, 4, 27, 28, 29, 30, 31, 37, 38] (by decide +kernel) (by decide +kernel)
set_option maxRecDepth 20000 in
theorem gX1_far_X0_stepsApart : GoodIn wsX1_far (wsV RX1 52 RX0 yX0_stepsApart wsX0_stepsApart) := goodIn_app (goodIn_of _ (by decide +kernel)) ggX1_far_X0_stepsApart
theorem dX1_far_0 : decode cX1_far 0 = .ok (.iload_n 1, 1) := by decide +kernel
theorem dX1_far_1 : decode cX1_far 1 = .ok (.invokestatic 30, 3) := by decide +kernel
theorem dX1_far_4 : decode cX1_far 4 = .ok (.ifCond .eq 10, 3) := by decide +kernel
theorem dX1_far_7 : decode cX1_far 7 = .ok (.iload_n 2, 1) := by decide +kernel
theorem dX1_far_8 : decode cX1_far 8 = .ok (.invokestatic 30, 3) := by decide +kernel
theorem dX1_far_11 : decode cX1_far 11 = .ok (.ifCond .ne 6, 3) := by decide +kernel
theorem dX1_far_14 : decode cX1_far 14 = .ok (.bipush (-2), 2) := by decide +kernel
theorem dX1_far_16 : decode cX1_far 16 = .ok (.ireturn, 1) := by decide +kernel
theorem dX1_far_17 : decode cX1_far 17 = .ok (.aload_n 0, 1) := by decide +kernel
theorem dX1_far_18 : decode cX1_far 18 = .ok (.getfield 10, 3) := by decide +kernel
theorem dX1_far_21 : decode cX1_far 21 = .ok (.iload_n 1, 1) := by decide +kernel
theorem dX1_far_22 : decode cX1_far 22 = .ok (.iload_n 2, 1) := by decide +kernel
theorem dX1_far_23 : decode cX1_far 23 = .ok (.invokevirtual 52, 3) := by decide +kernel
theorem dX1_far_26 : decode cX1_far 26 = .ok (.ireturn, 1) := by decide +kernel
set_option maxRecDepth 20000 in
theorem ggX1_side_X1_isKey : GoodIn wsX1_side wsX1_isKey := goodIn_r _ [5, 6, 7, 4, 8] (by decide +kernel) (by decide +kernel)
set_option maxRecDepth 20000 in
theorem gX1_side_X1_isKey : GoodIn wsX1_side (va_wsS RX1 30 yX1_isKey wsX1_isKey) := goodIn_app (goodIn_of _ (by decide +kernel)) ggX1_side_X1_isKey
set_option maxRecDepth 20000 in
theorem ggX1_side_X0_neighbour : GoodIn wsX1_side wsX0_neighbour := goodIn_r _ [13, 14, 15, 16, 17, 4, 18, 24, 25] (by decide +kernel) (by decide +kernel)
set_option maxRecDepth 20000 in
theorem gX1_side_X0_neighbour : GoodIn wsX1_side (wsV RX1 49 RX0 yX0_neighbour wsX0_neighbour) := goodIn_app (goodIn_of _ (by decide +kernel)) ggX1_side_X0_neighbour
theorem dX1_side_0 : decode cX1_side 0 = .ok (.iload_n 1, 1) := by decide +kernel
theorem dX1_side_1 : decode cX1_side 1 = .ok (.invokestatic 30, 3) := by decide +kernel
theorem dX1_side_4 : decode cX1_side 4 = .ok (.ifCond .eq 10, 3) := by decide +kernel
theorem dX1_side_7 : decode cX1_side 7 = .ok (.iload_n 2, 1) := by decide +kernel
theorem dX1_side_8 : decode cX1_side 8 = .ok (.invokestatic 30, 3) := by decide +kernel
theorem dX1_side_11 : decode cX1_side 11 = .ok (.ifCond .ne 6, 3) := by decide +kernel
theorem dX1_side_14 : decode cX1_side 14 = .ok (.bipush (-2), 2) := by decide +kernel
theorem dX1_side_16 : decode cX1_side 16 = .ok (.ireturn, 1) := by decide +kernel
theorem dX1_side_17 : decode cX1_side 17 = .ok (.iconst 0, 1) := by decide +kernel
theorem dX1_side_18 : decode cX1_side 18 = .ok (.istore_n 3, 1) := by decide +kernel
theorem dX1_side_19 : decode cX1_side 19 = .ok (.iload_n 3, 1) := by decide +kernel
theorem dX1_side_20 : decode cX1_side 20 = .ok (.bipush 6, 2) := by decide +kernel
theorem dX1_side_22 : decode cX1_side 22 = .ok (.if_icmp .gt 24, 3) := by decide +kernel
theorem dX1_side_25 : decode cX1_side 25 = .ok (.aload_n 0, 1) := by decide +kernel
theorem dX1_side_26 : decode cX1_side 26 = .ok (.getfield 10, 3) := by decide +kernel
theorem dX1_side_29 : decode cX1_side 29 = .ok (.iload_n 1, 1) := by decide +kernel
theorem dX1_side_30 : decode cX1_side 30 = .ok (.iload_n 3, 1) := by decide +kernel
theorem dX1_side_31 : decode cX1_side 31 = .ok (.invokevirtual 49, 3) := by decide +kernel
theorem dX1_side_34 : decode cX1_side 34 = .ok (.iload_n 2, 1) := by decide +kernel
theorem dX1_side_35 : decode cX1_side 35 = .ok (.if_icmp .ne 5, 3) := by decide +kernel
theorem dX1_side_38 : decode cX1_side 38 = .ok (.iload_n 3, 1) := by decide +kernel
theorem dX1_side_39 : decode cX1_side 39 = .ok (.ireturn, 1) := by decide +kernel
theorem dX1_side_40 : decode cX1_side 40 = .ok (.iinc 3 1, 3) := by decide +kernel
theorem dX1_side_43 : decode cX1_side 43 = .ok (.goto (-24), 3) := by decide +kernel
theorem dX1_side_46 : decode cX1_side 46 = .ok (.bipush (-6), 2) := by decide +kernel
theorem dX1_side_48 : decode cX1_side 48 = .ok (.ireturn, 1) := by decide +kernel
set_option maxRecDepth 20000 in
theorem ggX1_patch_X1_isKey : GoodIn wsX1_patch wsX1_isKey := goodIn_r _ [4, 5, 6, 3, 7] (by decide +kernel) (by decide +kernel)
set_option maxRecDepth 20000 in
theorem gX1_patch_X1_isKey : GoodIn wsX1_patch (va_wsS RX1 30 yX1_isKey wsX1_isKey) := goodIn_app (goodIn_of _ (by decide +kernel)) ggX1_patch_X1_isKey
set_option maxRecDepth 20000 in
theorem ggX1_patch_X1_isLevel : GoodIn wsX1_patch wsX1_isLevel := goodIn_r _ [10, 5, 6, 3, 7] (by decide +kernel) (by decide +kernel)
set_option maxRecDepth 20000 in
theorem gX1_patch_X1_isLevel : GoodIn wsX1_patch (va_wsS RX1 55 yX1_isLevel wsX1_isLevel) := goodIn_app (goodIn_of _ (by decide +kernel)) ggX1_patch_X1_isLevel
set_option maxRecDepth 20000 in
theorem ggX1_patch_X1_patchOf : GoodIn wsX1_patch wsX1_patchOf := goodIn_r _ [13, 14, 15, 3, 16] (by decide +kernel) (by decide +kernel)
set_option maxRecDepth 20000 in
theorem gX1_patch_X1_patchOf : GoodIn wsX1_patch (va_wsS RX1 58 yX1_patchOf wsX1_patchOf) := goodIn_app (goodIn_of _ (by decide +kernel)) ggX1_patch_X1_patchOf
theorem dX1_patch_0 : decode cX1_patch 0 = .ok (.iload_n 1, 1) := by decide +kernel
theorem dX1_patch_1 : decode cX1_patch 1 = .ok (.invokestatic 30, 3) := by decide +kernel
theorem dX1_patch_4 : decode cX1_patch 4 = .ok (.ifCond .eq 10, 3) := by decide +kernel
theorem dX1_patch_7 : decode cX1_patch 7 = .ok (.iload_n 2, 1) := by decide +kernel
theorem dX1_patch_8 : decode cX1_patch 8 = .ok (.invokestatic 55, 3) := by decide +kernel
theorem dX1_patch_11 : decode cX1_patch 11 = .ok (.ifCond .ne 6, 3) := by decide +kernel
theorem dX1_patch_14 : decode cX1_patch 14 = .ok (.bipush (-2), 2) := by decide +kernel
theorem dX1_patch_16 : decode cX1_patch 16 = .ok (.ireturn, 1) := by decide +kernel
theorem dX1_patch_17 : decode cX1_patch 17 = .ok (.iload_n 1, 1) := by decide +kernel
theorem dX1_patch_18 : decode cX1_patch 18 = .ok (.iload_n 2, 1) := by decide +kernel
theorem dX1_patch_19 : decode cX1_patch 19 = .ok (.invokestatic 58, 3) := by decide +kernel
theorem dX1_patch_22 : decode cX1_patch 22 = .ok (.ireturn, 1) := by decide +kernel
set_option maxRecDepth 20000 in
theorem ggX1_around_X1_isKey : GoodIn wsX1_around wsX1_isKey := goodIn_r _ [5, 6, 7, 4, 8] (by decide +kernel) (by decide +kernel)
set_option maxRecDepth 20000 in
theorem gX1_around_X1_isKey : GoodIn wsX1_around (va_wsS RX1 30 yX1_isKey wsX1_isKey) := goodIn_app (goodIn_of _ (by decide +kernel)) ggX1_around_X1_isKey
set_option maxRecDepth 20000 in
theorem ggX1_around_X1_isLevel : GoodIn wsX1_around wsX1_isLevel := goodIn_r _ [11, 6, 7, 4, 8] (by decide +kernel) (by decide +kernel)
set_option maxRecDepth 20000 in
theorem gX1_around_X1_isLevel : GoodIn wsX1_around (va_wsS RX1 55 yX1_isLevel wsX1_isLevel) := goodIn_app (goodIn_of _ (by decide +kernel)) ggX1_around_X1_isLevel
set_option maxRecDepth 20000 in
theorem ggX1_around_J7_fill_53178 : GoodIn wsX1_around wsJ7_fill_53178 := goodIn_r _ [15] (by decide +kernel) (by decide +kernel)
set_option maxRecDepth 20000 in
theorem gX1_around_J7_fill_53178 : GoodIn wsX1_around (va_wsS RX1 61 yJ7_fill_53178 wsJ7_fill_53178) := goodIn_app (goodIn_of _ (by decide +kernel)) ggX1_around_J7_fill_53178
set_option maxRecDepth 20000 in
theorem ggX1_around_X1_patchOf : GoodIn wsX1_around wsX1_patchOf := goodIn_r _ [18, 19, 20, 4, 21] (by decide +kernel) (by decide +kernel)
set_option maxRecDepth 20000 in
theorem gX1_around_X1_patchOf : GoodIn wsX1_around (va_wsS RX1 58 yX1_patchOf wsX1_patchOf) := goodIn_app (goodIn_of _ (by decide +kernel)) ggX1_around_X1_patchOf
set_option maxRecDepth 20000 in
theorem ggX1_around_X1_patchSize : GoodIn wsX1_around wsX1_patchSize := goodIn_r _ [21] (by decide +kernel) (by decide +kernel)
set_option maxRecDepth 20000 in
theorem gX1_around_X1_patchSize : GoodIn wsX1_around (va_wsS RX1 67 yX1_patchSize wsX1_patchSize) := goodIn_app (goodIn_of _ (by decide +kernel)) ggX1_around_X1_patchSize
set_option maxRecDepth 20000 in
theorem ggX1_around_X1_markPatchesNextTo : GoodIn wsX1_around wsX1_markPatchesNextTo := goodIn_r _ [25, 26, 27, 28, 29, 30, 31, 32, 33, 34, 35, 4, 36, 16, 17, 18, 19, 20, 21, 37, 38, 39, 40, 1, 41, 42, 43, 44, 45, 46, 47, 48, 49, 50, 51, 52] (by decide +kernel) (by decide +kernel)
set_option maxRecDepth 20000 in
theorem gX1_around_X1_markPatchesNextTo : GoodIn wsX1_around (wsV RX1 70 RX1 yX1_markPatchesNextTo wsX1_markPatchesNextTo) := goodIn_app (goodIn_of _ (by decide +kernel)) ggX1_around_X1_markPatchesNextTo
theorem dX1_around_0 : decode cX1_around 0 = .ok (.iload_n 1, 1) := by decide +kernel
theorem dX1_around_1 : decode cX1_around 1 = .ok (.invokestatic 30, 3) := by decide +kernel
theorem dX1_around_4 : decode cX1_around 4 = .ok (.ifCond .eq 10, 3) := by decide +kernel
theorem dX1_around_7 : decode cX1_around 7 = .ok (.iload_n 2, 1) := by decide +kernel
theorem dX1_around_8 : decode cX1_around 8 = .ok (.invokestatic 55, 3) := by decide +kernel
theorem dX1_around_11 : decode cX1_around 11 = .ok (.ifCond .ne 6, 3) := by decide +kernel
theorem dX1_around_14 : decode cX1_around 14 = .ok (.bipush (-2), 2) := by decide +kernel
theorem dX1_around_16 : decode cX1_around 16 = .ok (.ireturn, 1) := by decide +kernel
theorem dX1_around_17 : decode cX1_around 17 = .ok (.aload_n 0, 1) := by decide +kernel
theorem dX1_around_18 : decode cX1_around 18 = .ok (.getfield 24, 3) := by decide +kernel
theorem dX1_around_21 : decode cX1_around 21 = .ok (.iconst 0, 1) := by decide +kernel
theorem dX1_around_22 : decode cX1_around 22 = .ok (.invokestatic 61, 3) := by decide +kernel
theorem dX1_around_25 : decode cX1_around 25 = .ok (.iload_n 1, 1) := by decide +kernel
theorem dX1_around_26 : decode cX1_around 26 = .ok (.iload_n 2, 1) := by decide +kernel
theorem dX1_around_27 : decode cX1_around 27 = .ok (.invokestatic 58, 3) := by decide +kernel
theorem dX1_around_30 : decode cX1_around 30 = .ok (.istore_n 3, 1) := by decide +kernel
theorem dX1_around_31 : decode cX1_around 31 = .ok (.iload_n 3, 1) := by decide +kernel
theorem dX1_around_32 : decode cX1_around 32 = .ok (.iload_n 2, 1) := by decide +kernel
theorem dX1_around_33 : decode cX1_around 33 = .ok (.invokestatic 67, 3) := by decide +kernel
theorem dX1_around_36 : decode cX1_around 36 = .ok (.iadd, 1) := by decide +kernel
theorem dX1_around_37 : decode cX1_around 37 = .ok (.istore 4, 2) := by decide +kernel
theorem dX1_around_39 : decode cX1_around 39 = .ok (.iconst 0, 1) := by decide +kernel
theorem dX1_around_40 : decode cX1_around 40 = .ok (.istore 5, 2) := by decide +kernel
theorem dX1_around_42 : decode cX1_around 42 = .ok (.iload_n 3, 1) := by decide +kernel
theorem dX1_around_43 : decode cX1_around 43 = .ok (.istore 6, 2) := by decide +kernel
theorem dX1_around_45 : decode cX1_around 45 = .ok (.iload 6, 2) := by decide +kernel
theorem dX1_around_47 : decode cX1_around 47 = .ok (.iload 4, 2) := by decide +kernel
theorem dX1_around_49 : decode cX1_around 49 = .ok (.if_icmp .ge 22, 3) := by decide +kernel
theorem dX1_around_52 : decode cX1_around 52 = .ok (.iload 5, 2) := by decide +kernel
theorem dX1_around_54 : decode cX1_around 54 = .ok (.aload_n 0, 1) := by decide +kernel
theorem dX1_around_55 : decode cX1_around 55 = .ok (.iload 6, 2) := by decide +kernel
theorem dX1_around_57 : decode cX1_around 57 = .ok (.iload_n 3, 1) := by decide +kernel
theorem dX1_around_58 : decode cX1_around 58 = .ok (.iload_n 2, 1) := by decide +kernel
theorem dX1_around_59 : decode cX1_around 59 = .ok (.invokevirtual 70, 3) := by decide +kernel
theorem dX1_around_62 : decode cX1_around 62 = .ok (.iadd, 1) := by decide +kernel
theorem dX1_around_63 : decode cX1_around 63 = .ok (.istore 5, 2) := by decide +kernel
theorem dX1_around_65 : decode cX1_around 65 = .ok (.iinc 6 1, 3) := by decide +kernel
theorem dX1_around_68 : decode cX1_around 68 = .ok (.goto (-23), 3) := by decide +kernel
theorem dX1_around_71 : decode cX1_around 71 = .ok (.iload 5, 2) := by decide +kernel
theorem dX1_around_73 : decode cX1_around 73 = .ok (.ireturn, 1) := by decide +kernel
set_option maxRecDepth 20000 in
theorem ggX1_ring_X1_isKey : GoodIn wsX1_ring wsX1_isKey := goodIn_r _ [5, 6, 7, 4, 8] (by decide +kernel) (by decide +kernel)
set_option maxRecDepth 20000 in
theorem gX1_ring_X1_isKey : GoodIn wsX1_ring (va_wsS RX1 30 yX1_isKey wsX1_isKey) := goodIn_app (goodIn_of _ (by decide +kernel)) ggX1_ring_X1_isKey
set_option maxRecDepth 20000 in
theorem ggX1_ring_X1_within : GoodIn wsX1_ring wsX1_within := goodIn_r _ [8] (by decide +kernel) (by decide +kernel)
set_option maxRecDepth 20000 in
theorem gX1_ring_X1_within : GoodIn wsX1_ring (va_wsS RX1 34 yX1_within wsX1_within) := goodIn_app (goodIn_of _ (by decide +kernel)) ggX1_ring_X1_within
set_option maxRecDepth 20000 in
theorem ggX1_ring_X0_stepsApart : GoodIn wsX1_ring wsX0_stepsApart := goodIn_r _ [13, 14, 15, 16, 17, 18, 19, 20, 21, 22, 23, 12, 24, 25, 26, 4, 27, 28, 29, 30, 31, 37, 38] (by decide +kernel) (by decide +kernel)
set_option maxRecDepth 20000 in
theorem gX1_ring_X0_stepsApart : GoodIn wsX1_ring (wsV RX1 52 RX0 yX0_stepsApart wsX0_stepsApart) := goodIn_app (goodIn_of _ (by decide +kernel)) ggX1_ring_X0_stepsApart
theorem dX1_ring_0 : decode cX1_ring 0 = .ok (.iload_n 1, 1) := by decide +kernel
theorem dX1_ring_1 : decode cX1_ring 1 = .ok (.invokestatic 30, 3) := by decide +kernel
theorem dX1_ring_4 : decode cX1_ring 4 = .ok (.ifCond .eq 13, 3) := by decide +kernel
theorem dX1_ring_7 : decode cX1_ring 7 = .ok (.iload_n 2, 1) := by decide +kernel
theorem dX1_ring_8 : decode cX1_ring 8 = .ok (.iconst 0, 1) := by decide +kernel
theorem dX1_ring_9 : decode cX1_ring 9 = .ok (.bipush 70, 2) := by decide +kernel
theorem dX1_ring_11 : decode cX1_ring 11 = .ok (.invokestatic 34, 3) := by decide +kernel
theorem dX1_ring_14 : decode cX1_ring 14 = .ok (.ifCond .ne 6, 3) := by decide +kernel
theorem dX1_ring_17 : decode cX1_ring 17 = .ok (.bipush (-2), 2) := by decide +kernel
theorem dX1_ring_19 : decode cX1_ring 19 = .ok (.ireturn, 1) := by decide +kernel
theorem dX1_ring_20 : decode cX1_ring 20 = .ok (.iconst 0, 1) := by decide +kernel
theorem dX1_ring_21 : decode cX1_ring 21 = .ok (.istore_n 3, 1) := by decide +kernel
theorem dX1_ring_22 : decode cX1_ring 22 = .ok (.iconst 0, 1) := by decide +kernel
theorem dX1_ring_23 : decode cX1_ring 23 = .ok (.istore 4, 2) := by decide +kernel
theorem dX1_ring_25 : decode cX1_ring 25 = .ok (.iload 4, 2) := by decide +kernel
theorem dX1_ring_27 : decode cX1_ring 27 = .ok (.sipush 2401, 3) := by decide +kernel
theorem dX1_ring_30 : decode cX1_ring 30 = .ok (.if_icmp .ge 26, 3) := by decide +kernel
theorem dX1_ring_33 : decode cX1_ring 33 = .ok (.aload_n 0, 1) := by decide +kernel
theorem dX1_ring_34 : decode cX1_ring 34 = .ok (.getfield 10, 3) := by decide +kernel
theorem dX1_ring_37 : decode cX1_ring 37 = .ok (.iload_n 1, 1) := by decide +kernel
theorem dX1_ring_38 : decode cX1_ring 38 = .ok (.iload 4, 2) := by decide +kernel
theorem dX1_ring_40 : decode cX1_ring 40 = .ok (.invokevirtual 52, 3) := by decide +kernel
theorem dX1_ring_43 : decode cX1_ring 43 = .ok (.iload_n 2, 1) := by decide +kernel
theorem dX1_ring_44 : decode cX1_ring 44 = .ok (.if_icmp .ne 6, 3) := by decide +kernel
theorem dX1_ring_47 : decode cX1_ring 47 = .ok (.iinc 3 1, 3) := by decide +kernel
theorem dX1_ring_50 : decode cX1_ring 50 = .ok (.iinc 4 1, 3) := by decide +kernel
theorem dX1_ring_53 : decode cX1_ring 53 = .ok (.goto (-28), 3) := by decide +kernel
theorem dX1_ring_56 : decode cX1_ring 56 = .ok (.iload_n 3, 1) := by decide +kernel
theorem dX1_ring_57 : decode cX1_ring 57 = .ok (.ireturn, 1) := by decide +kernel
set_option maxRecDepth 20000 in
theorem ggX1_put_X1_isSlot : GoodIn wsX1_put wsX1_isSlot := goodIn_r _ [4, 5, 6, 3, 7] (by decide +kernel) (by decide +kernel)
set_option maxRecDepth 20000 in
theorem gX1_put_X1_isSlot : GoodIn wsX1_put (va_wsS RX1 74 yX1_isSlot wsX1_isSlot) := goodIn_app (goodIn_of _ (by decide +kernel)) ggX1_put_X1_isSlot
set_option maxRecDepth 20000 in
theorem ggX1_put_X1_isKey : GoodIn wsX1_put wsX1_isKey := goodIn_r _ [10, 5, 6, 3, 7] (by decide +kernel) (by decide +kernel)
set_option maxRecDepth 20000 in
theorem gX1_put_X1_isKey : GoodIn wsX1_put (va_wsS RX1 30 yX1_isKey wsX1_isKey) := goodIn_app (goodIn_of _ (by decide +kernel)) ggX1_put_X1_isKey
set_option maxRecDepth 20000 in
theorem ggX1_put_X1_isLevel : GoodIn wsX1_put wsX1_isLevel := goodIn_r _ [13, 5, 6, 3, 7] (by decide +kernel) (by decide +kernel)
set_option maxRecDepth 20000 in
theorem gX1_put_X1_isLevel : GoodIn wsX1_put (va_wsS RX1 55 yX1_isLevel wsX1_isLevel) := goodIn_app (goodIn_of _ (by decide +kernel)) ggX1_put_X1_isLevel
set_option maxRecDepth 20000 in
theorem ggX1_put_X1_within : GoodIn wsX1_put wsX1_within := goodIn_r _ [7] (by decide +kernel) (by decide +kernel)
set_option maxRecDepth 20000 in
theorem gX1_put_X1_within : GoodIn wsX1_put (va_wsS RX1 34 yX1_within wsX1_within) := goodIn_app (goodIn_of _ (by decide +kernel)) ggX1_put_X1_within
set_option maxRecDepth 20000 in
theorem ggX1_put_X1_patchOf : GoodIn wsX1_put wsX1_patchOf := goodIn_r _ [16, 17, 18, 3, 19] (by decide +kernel) (by decide +kernel)
set_option maxRecDepth 20000 in
theorem gX1_put_X1_patchOf : GoodIn wsX1_put (va_wsS RX1 58 yX1_patchOf wsX1_patchOf) := goodIn_app (goodIn_of _ (by decide +kernel)) ggX1_put_X1_patchOf
set_option maxRecDepth 20000 in
theorem ggX1_put_X1_patchSize : GoodIn wsX1_put wsX1_patchSize := goodIn_r _ [19] (by decide +kernel) (by decide +kernel)
set_option maxRecDepth 20000 in
theorem gX1_put_X1_patchSize : GoodIn wsX1_put (va_wsS RX1 67 yX1_patchSize wsX1_patchSize) := goodIn_app (goodIn_of _ (by decide +kernel)) ggX1_put_X1_patchSize
set_option maxRecDepth 20000 in
theorem ggX1_put_X1_place : GoodIn wsX1_put wsX1_place := goodIn_r _ [23, 24, 33, 34, 35, 36, 37] (by decide +kernel) (by decide +kernel)
set_option maxRecDepth 20000 in
theorem gX1_put_X1_place : GoodIn wsX1_put (wsV RX1 77 RX1 yX1_place wsX1_place) := goodIn_app (goodIn_of _ (by decide +kernel)) ggX1_put_X1_place
set_option maxRecDepth 20000 in
theorem ggX1_put_X1_sizeOf : GoodIn wsX1_put wsX1_sizeOf := goodIn_r _ [28, 29, 30, 31, 3, 32, 24, 33, 34, 35, 36, 37] (by decide +kernel) (by decide +kernel)
set_option maxRecDepth 20000 in
theorem gX1_put_X1_sizeOf : GoodIn wsX1_put (wsV RX1 81 RX1 yX1_sizeOf wsX1_sizeOf) := goodIn_app (goodIn_of _ (by decide +kernel)) ggX1_put_X1_sizeOf
theorem dX1_put_0 : decode cX1_put 0 = .ok (.iload_n 1, 1) := by decide +kernel
theorem dX1_put_1 : decode cX1_put 1 = .ok (.invokestatic 74, 3) := by decide +kernel
theorem dX1_put_4 : decode cX1_put 4 = .ok (.ifCond .ne 5, 3) := by decide +kernel
theorem dX1_put_7 : decode cX1_put 7 = .ok (.iconst (-1), 1) := by decide +kernel
theorem dX1_put_8 : decode cX1_put 8 = .ok (.ireturn, 1) := by decide +kernel
theorem dX1_put_9 : decode cX1_put 9 = .ok (.iload_n 2, 1) := by decide +kernel
theorem dX1_put_10 : decode cX1_put 10 = .ok (.invokestatic 30, 3) := by decide +kernel
theorem dX1_put_13 : decode cX1_put 13 = .ok (.ifCond .eq 20, 3) := by decide +kernel
theorem dX1_put_16 : decode cX1_put 16 = .ok (.iload_n 3, 1) := by decide +kernel
theorem dX1_put_17 : decode cX1_put 17 = .ok (.invokestatic 55, 3) := by decide +kernel
theorem dX1_put_20 : decode cX1_put 20 = .ok (.ifCond .eq 13, 3) := by decide +kernel
theorem dX1_put_23 : decode cX1_put 23 = .ok (.iload 4, 2) := by decide +kernel
theorem dX1_put_25 : decode cX1_put 25 = .ok (.iconst 0, 1) := by decide +kernel
theorem dX1_put_26 : decode cX1_put 26 = .ok (.iconst 1, 1) := by decide +kernel
theorem dX1_put_27 : decode cX1_put 27 = .ok (.invokestatic 34, 3) := by decide +kernel
theorem dX1_put_30 : decode cX1_put 30 = .ok (.ifCond .ne 6, 3) := by decide +kernel
theorem dX1_put_33 : decode cX1_put 33 = .ok (.bipush (-2), 2) := by decide +kernel
theorem dX1_put_35 : decode cX1_put 35 = .ok (.ireturn, 1) := by decide +kernel
theorem dX1_put_36 : decode cX1_put 36 = .ok (.iload_n 2, 1) := by decide +kernel
theorem dX1_put_37 : decode cX1_put 37 = .ok (.iload_n 3, 1) := by decide +kernel
theorem dX1_put_38 : decode cX1_put 38 = .ok (.invokestatic 58, 3) := by decide +kernel
theorem dX1_put_41 : decode cX1_put 41 = .ok (.istore 5, 2) := by decide +kernel
theorem dX1_put_43 : decode cX1_put 43 = .ok (.iload 5, 2) := by decide +kernel
theorem dX1_put_45 : decode cX1_put 45 = .ok (.iload_n 3, 1) := by decide +kernel
theorem dX1_put_46 : decode cX1_put 46 = .ok (.invokestatic 67, 3) := by decide +kernel
theorem dX1_put_49 : decode cX1_put 49 = .ok (.iadd, 1) := by decide +kernel
theorem dX1_put_50 : decode cX1_put 50 = .ok (.istore 6, 2) := by decide +kernel
theorem dX1_put_52 : decode cX1_put 52 = .ok (.iload 5, 2) := by decide +kernel
theorem dX1_put_54 : decode cX1_put 54 = .ok (.istore 7, 2) := by decide +kernel
theorem dX1_put_56 : decode cX1_put 56 = .ok (.iload 7, 2) := by decide +kernel
theorem dX1_put_58 : decode cX1_put 58 = .ok (.iload 6, 2) := by decide +kernel
theorem dX1_put_60 : decode cX1_put 60 = .ok (.if_icmp .ge 27, 3) := by decide +kernel
theorem dX1_put_63 : decode cX1_put 63 = .ok (.aload_n 0, 1) := by decide +kernel
theorem dX1_put_64 : decode cX1_put 64 = .ok (.iload_n 1, 1) := by decide +kernel
theorem dX1_put_65 : decode cX1_put 65 = .ok (.iload 7, 2) := by decide +kernel
theorem dX1_put_67 : decode cX1_put 67 = .ok (.iload 4, 2) := by decide +kernel
theorem dX1_put_69 : decode cX1_put 69 = .ok (.iconst 1, 1) := by decide +kernel
theorem dX1_put_70 : decode cX1_put 70 = .ok (.if_icmp .ne 7, 3) := by decide +kernel
theorem dX1_put_73 : decode cX1_put 73 = .ok (.iconst 1, 1) := by decide +kernel
theorem dX1_put_74 : decode cX1_put 74 = .ok (.goto 4, 3) := by decide +kernel
theorem dX1_put_77 : decode cX1_put 77 = .ok (.iconst 0, 1) := by decide +kernel
theorem dX1_put_78 : decode cX1_put 78 = .ok (.invokevirtual 77, 3) := by decide +kernel
theorem dX1_put_81 : decode cX1_put 81 = .ok (.iinc 7 1, 3) := by decide +kernel
theorem dX1_put_84 : decode cX1_put 84 = .ok (.goto (-28), 3) := by decide +kernel
theorem dX1_put_87 : decode cX1_put 87 = .ok (.aload_n 0, 1) := by decide +kernel
theorem dX1_put_88 : decode cX1_put 88 = .ok (.iload_n 1, 1) := by decide +kernel
theorem dX1_put_89 : decode cX1_put 89 = .ok (.invokevirtual 81, 3) := by decide +kernel
theorem dX1_put_92 : decode cX1_put 92 = .ok (.ireturn, 1) := by decide +kernel
set_option maxRecDepth 20000 in
theorem ggX1_disk_X1_isSlot : GoodIn wsX1_disk wsX1_isSlot := goodIn_r _ [5, 6, 7, 4, 8] (by decide +kernel) (by decide +kernel)
set_option maxRecDepth 20000 in
theorem gX1_disk_X1_isSlot : GoodIn wsX1_disk (va_wsS RX1 74 yX1_isSlot wsX1_isSlot) := goodIn_app (goodIn_of _ (by decide +kernel)) ggX1_disk_X1_isSlot
set_option maxRecDepth 20000 in
theorem ggX1_disk_X1_isKey : GoodIn wsX1_disk wsX1_isKey := goodIn_r _ [11, 6, 7, 4, 8] (by decide +kernel) (by decide +kernel)
set_option maxRecDepth 20000 in
theorem gX1_disk_X1_isKey : GoodIn wsX1_disk (va_wsS RX1 30 yX1_isKey wsX1_isKey) := goodIn_app (goodIn_of _ (by decide +kernel)) ggX1_disk_X1_isKey
set_option maxRecDepth 20000 in
theorem ggX1_disk_X1_within : GoodIn wsX1_disk wsX1_within := goodIn_r _ [8] (by decide +kernel) (by decide +kernel)
set_option maxRecDepth 20000 in
theorem gX1_disk_X1_within : GoodIn wsX1_disk (va_wsS RX1 34 yX1_within wsX1_within) := goodIn_app (goodIn_of _ (by decide +kernel)) ggX1_disk_X1_within
set_option maxRecDepth 20000 in
theorem ggX1_disk_X0_stepsApart : GoodIn wsX1_disk wsX0_stepsApart := goodIn_r _ [16, 17, 18, 19, 20, 21, 22, 23, 24, 25, 26, 15, 27, 28, 29, 4, 30, 31, 32, 33, 34, 53, 54] (by decide +kernel) (by decide +kernel)
set_option maxRecDepth 20000 in
theorem gX1_disk_X0_stepsApart : GoodIn wsX1_disk (wsV RX1 52 RX0 yX0_stepsApart wsX0_stepsApart) := goodIn_app (goodIn_of _ (by decide +kernel)) ggX1_disk_X0_stepsApart
set_option maxRecDepth 20000 in
theorem ggX1_disk_X1_place : GoodIn wsX1_disk wsX1_place := goodIn_r _ [38, 39, 48, 49, 50, 51, 52] (by decide +kernel) (by decide +kernel)
set_option maxRecDepth 20000 in
theorem gX1_disk_X1_place : GoodIn wsX1_disk (wsV RX1 77 RX1 yX1_place wsX1_place) := goodIn_app (goodIn_of _ (by decide +kernel)) ggX1_disk_X1_place
set_option maxRecDepth 20000 in
theorem ggX1_disk_X1_sizeOf : GoodIn wsX1_disk wsX1_sizeOf := goodIn_r _ [43, 44, 45, 46, 4, 47, 39, 48, 49, 50, 51, 52] (by decide +kernel) (by decide +kernel)
set_option maxRecDepth 20000 in
theorem gX1_disk_X1_sizeOf : GoodIn wsX1_disk (wsV RX1 81 RX1 yX1_sizeOf wsX1_sizeOf) := goodIn_app (goodIn_of _ (by decide +kernel)) ggX1_disk_X1_sizeOf
theorem dX1_disk_0 : decode cX1_disk 0 = .ok (.iload_n 1, 1) := by decide +kernel
theorem dX1_disk_1 : decode cX1_disk 1 = .ok (.invokestatic 74, 3) := by decide +kernel
theorem dX1_disk_4 : decode cX1_disk 4 = .ok (.ifCond .ne 5, 3) := by decide +kernel
theorem dX1_disk_7 : decode cX1_disk 7 = .ok (.iconst (-1), 1) := by decide +kernel
theorem dX1_disk_8 : decode cX1_disk 8 = .ok (.ireturn, 1) := by decide +kernel
theorem dX1_disk_9 : decode cX1_disk 9 = .ok (.iload_n 2, 1) := by decide +kernel
theorem dX1_disk_10 : decode cX1_disk 10 = .ok (.invokestatic 30, 3) := by decide +kernel
theorem dX1_disk_13 : decode cX1_disk 13 = .ok (.ifCond .eq 13, 3) := by decide +kernel
theorem dX1_disk_16 : decode cX1_disk 16 = .ok (.iload_n 3, 1) := by decide +kernel
theorem dX1_disk_17 : decode cX1_disk 17 = .ok (.iconst 0, 1) := by decide +kernel
theorem dX1_disk_18 : decode cX1_disk 18 = .ok (.bipush 70, 2) := by decide +kernel
theorem dX1_disk_20 : decode cX1_disk 20 = .ok (.invokestatic 34, 3) := by decide +kernel
theorem dX1_disk_23 : decode cX1_disk 23 = .ok (.ifCond .ne 6, 3) := by decide +kernel
theorem dX1_disk_26 : decode cX1_disk 26 = .ok (.bipush (-2), 2) := by decide +kernel
theorem dX1_disk_28 : decode cX1_disk 28 = .ok (.ireturn, 1) := by decide +kernel
theorem dX1_disk_29 : decode cX1_disk 29 = .ok (.iconst 0, 1) := by decide +kernel
theorem dX1_disk_30 : decode cX1_disk 30 = .ok (.istore 4, 2) := by decide +kernel
theorem dX1_disk_32 : decode cX1_disk 32 = .ok (.iload 4, 2) := by decide +kernel
theorem dX1_disk_34 : decode cX1_disk 34 = .ok (.sipush 2401, 3) := by decide +kernel
theorem dX1_disk_37 : decode cX1_disk 37 = .ok (.if_icmp .ge 35, 3) := by decide +kernel
theorem dX1_disk_40 : decode cX1_disk 40 = .ok (.aload_n 0, 1) := by decide +kernel
theorem dX1_disk_41 : decode cX1_disk 41 = .ok (.iload_n 1, 1) := by decide +kernel
theorem dX1_disk_42 : decode cX1_disk 42 = .ok (.iload 4, 2) := by decide +kernel
theorem dX1_disk_44 : decode cX1_disk 44 = .ok (.aload_n 0, 1) := by decide +kernel
theorem dX1_disk_45 : decode cX1_disk 45 = .ok (.getfield 10, 3) := by decide +kernel
theorem dX1_disk_48 : decode cX1_disk 48 = .ok (.iload_n 2, 1) := by decide +kernel
theorem dX1_disk_49 : decode cX1_disk 49 = .ok (.iload 4, 2) := by decide +kernel
theorem dX1_disk_51 : decode cX1_disk 51 = .ok (.invokevirtual 52, 3) := by decide +kernel
theorem dX1_disk_54 : decode cX1_disk 54 = .ok (.iload_n 3, 1) := by decide +kernel
theorem dX1_disk_55 : decode cX1_disk 55 = .ok (.if_icmp .gt 7, 3) := by decide +kernel
theorem dX1_disk_58 : decode cX1_disk 58 = .ok (.iconst 1, 1) := by decide +kernel
theorem dX1_disk_59 : decode cX1_disk 59 = .ok (.goto 4, 3) := by decide +kernel
theorem dX1_disk_62 : decode cX1_disk 62 = .ok (.iconst 0, 1) := by decide +kernel
theorem dX1_disk_63 : decode cX1_disk 63 = .ok (.invokevirtual 77, 3) := by decide +kernel
theorem dX1_disk_66 : decode cX1_disk 66 = .ok (.iinc 4 1, 3) := by decide +kernel
theorem dX1_disk_69 : decode cX1_disk 69 = .ok (.goto (-37), 3) := by decide +kernel
theorem dX1_disk_72 : decode cX1_disk 72 = .ok (.aload_n 0, 1) := by decide +kernel
theorem dX1_disk_73 : decode cX1_disk 73 = .ok (.iload_n 1, 1) := by decide +kernel
theorem dX1_disk_74 : decode cX1_disk 74 = .ok (.invokevirtual 81, 3) := by decide +kernel
theorem dX1_disk_77 : decode cX1_disk 77 = .ok (.ireturn, 1) := by decide +kernel
set_option maxRecDepth 20000 in
theorem ggX1_join_X1_isSlot : GoodIn wsX1_join wsX1_isSlot := goodIn_r _ [4, 5, 6, 3, 7] (by decide +kernel) (by decide +kernel)
set_option maxRecDepth 20000 in
theorem gX1_join_X1_isSlot : GoodIn wsX1_join (va_wsS RX1 74 yX1_isSlot wsX1_isSlot) := goodIn_app (goodIn_of _ (by decide +kernel)) ggX1_join_X1_isSlot
set_option maxRecDepth 20000 in
theorem ggX1_join_X1_within : GoodIn wsX1_join wsX1_within := goodIn_r _ [7] (by decide +kernel) (by decide +kernel)
set_option maxRecDepth 20000 in
theorem gX1_join_X1_within : GoodIn wsX1_join (va_wsS RX1 34 yX1_within wsX1_within) := goodIn_app (goodIn_of _ (by decide +kernel)) ggX1_join_X1_within
set_option maxRecDepth 20000 in
theorem ggX1_join_X1_holds : GoodIn wsX1_join wsX1_holds := goodIn_r _ [11, 12, 24, 25, 26, 27, 28] (by decide +kernel) (by decide +kernel)
set_option maxRecDepth 20000 in
theorem gX1_join_X1_holds : GoodIn wsX1_join (wsV RX1 84 RX1 yX1_holds wsX1_holds) := goodIn_app (goodIn_of _ (by decide +kernel)) ggX1_join_X1_holds
set_option maxRecDepth 20000 in
theorem ggX1_join_X1_joined : GoodIn wsX1_join wsX1_joined := goodIn_r _ [15] (by decide +kernel) (by decide +kernel)
set_option maxRecDepth 20000 in
theorem gX1_join_X1_joined : GoodIn wsX1_join (va_wsS RX1 88 yX1_joined wsX1_joined) := goodIn_app (goodIn_of _ (by decide +kernel)) ggX1_join_X1_joined
set_option maxRecDepth 20000 in
theorem ggX1_join_X1_place : GoodIn wsX1_join wsX1_place := goodIn_r _ [19, 12, 24, 25, 26, 27, 28] (by decide +kernel) (by decide +kernel)
set_option maxRecDepth 20000 in
theorem gX1_join_X1_place : GoodIn wsX1_join (wsV RX1 77 RX1 yX1_place wsX1_place) := goodIn_app (goodIn_of _ (by decide +kernel)) ggX1_join_X1_place
set_option maxRecDepth 20000 in
theorem ggX1_join_X1_sizeOf : GoodIn wsX1_join wsX1_sizeOf := goodIn_r _ [23, 8, 9, 10, 3, 11, 12, 24, 25, 26, 27, 28] (by decide +kernel) (by decide +kernel)
set_option maxRecDepth 20000 in
theorem gX1_join_X1_sizeOf : GoodIn wsX1_join (wsV RX1 81 RX1 yX1_sizeOf wsX1_sizeOf) := goodIn_app (goodIn_of _ (by decide +kernel)) ggX1_join_X1_sizeOf
theorem dX1_join_0 : decode cX1_join 0 = .ok (.iload_n 1, 1) := by decide +kernel
theorem dX1_join_1 : decode cX1_join 1 = .ok (.invokestatic 74, 3) := by decide +kernel
theorem dX1_join_4 : decode cX1_join 4 = .ok (.ifCond .eq 17, 3) := by decide +kernel
theorem dX1_join_7 : decode cX1_join 7 = .ok (.iload_n 2, 1) := by decide +kernel
theorem dX1_join_8 : decode cX1_join 8 = .ok (.invokestatic 74, 3) := by decide +kernel
theorem dX1_join_11 : decode cX1_join 11 = .ok (.ifCond .eq 10, 3) := by decide +kernel
theorem dX1_join_14 : decode cX1_join 14 = .ok (.iload_n 3, 1) := by decide +kernel
theorem dX1_join_15 : decode cX1_join 15 = .ok (.invokestatic 74, 3) := by decide +kernel
theorem dX1_join_18 : decode cX1_join 18 = .ok (.ifCond .ne 5, 3) := by decide +kernel
theorem dX1_join_21 : decode cX1_join 21 = .ok (.iconst (-1), 1) := by decide +kernel
theorem dX1_join_22 : decode cX1_join 22 = .ok (.ireturn, 1) := by decide +kernel
theorem dX1_join_23 : decode cX1_join 23 = .ok (.iload 4, 2) := by decide +kernel
theorem dX1_join_25 : decode cX1_join 25 = .ok (.iconst 0, 1) := by decide +kernel
theorem dX1_join_26 : decode cX1_join 26 = .ok (.iconst 3, 1) := by decide +kernel
theorem dX1_join_27 : decode cX1_join 27 = .ok (.invokestatic 34, 3) := by decide +kernel
theorem dX1_join_30 : decode cX1_join 30 = .ok (.ifCond .ne 6, 3) := by decide +kernel
theorem dX1_join_33 : decode cX1_join 33 = .ok (.bipush (-2), 2) := by decide +kernel
theorem dX1_join_35 : decode cX1_join 35 = .ok (.ireturn, 1) := by decide +kernel
theorem dX1_join_36 : decode cX1_join 36 = .ok (.iconst 0, 1) := by decide +kernel
theorem dX1_join_37 : decode cX1_join 37 = .ok (.istore 5, 2) := by decide +kernel
theorem dX1_join_39 : decode cX1_join 39 = .ok (.iload 5, 2) := by decide +kernel
theorem dX1_join_41 : decode cX1_join 41 = .ok (.sipush 2401, 3) := by decide +kernel
theorem dX1_join_44 : decode cX1_join 44 = .ok (.if_icmp .ge 35, 3) := by decide +kernel
theorem dX1_join_47 : decode cX1_join 47 = .ok (.aload_n 0, 1) := by decide +kernel
theorem dX1_join_48 : decode cX1_join 48 = .ok (.iload_n 1, 1) := by decide +kernel
theorem dX1_join_49 : decode cX1_join 49 = .ok (.iload 5, 2) := by decide +kernel
theorem dX1_join_51 : decode cX1_join 51 = .ok (.aload_n 0, 1) := by decide +kernel
theorem dX1_join_52 : decode cX1_join 52 = .ok (.iload_n 2, 1) := by decide +kernel
theorem dX1_join_53 : decode cX1_join 53 = .ok (.iload 5, 2) := by decide +kernel
theorem dX1_join_55 : decode cX1_join 55 = .ok (.invokevirtual 84, 3) := by decide +kernel
theorem dX1_join_58 : decode cX1_join 58 = .ok (.aload_n 0, 1) := by decide +kernel
theorem dX1_join_59 : decode cX1_join 59 = .ok (.iload_n 3, 1) := by decide +kernel
theorem dX1_join_60 : decode cX1_join 60 = .ok (.iload 5, 2) := by decide +kernel
theorem dX1_join_62 : decode cX1_join 62 = .ok (.invokevirtual 84, 3) := by decide +kernel
theorem dX1_join_65 : decode cX1_join 65 = .ok (.iload 4, 2) := by decide +kernel
theorem dX1_join_67 : decode cX1_join 67 = .ok (.invokestatic 88, 3) := by decide +kernel
theorem dX1_join_70 : decode cX1_join 70 = .ok (.invokevirtual 77, 3) := by decide +kernel
theorem dX1_join_73 : decode cX1_join 73 = .ok (.iinc 5 1, 3) := by decide +kernel
theorem dX1_join_76 : decode cX1_join 76 = .ok (.goto (-37), 3) := by decide +kernel
theorem dX1_join_79 : decode cX1_join 79 = .ok (.aload_n 0, 1) := by decide +kernel
theorem dX1_join_80 : decode cX1_join 80 = .ok (.iload_n 1, 1) := by decide +kernel
theorem dX1_join_81 : decode cX1_join 81 = .ok (.invokevirtual 81, 3) := by decide +kernel
theorem dX1_join_84 : decode cX1_join 84 = .ok (.ireturn, 1) := by decide +kernel
set_option maxRecDepth 20000 in
theorem ggX1_grow_X1_isSlot : GoodIn wsX1_grow wsX1_isSlot := goodIn_r _ [5, 6, 7, 4, 8] (by decide +kernel) (by decide +kernel)
set_option maxRecDepth 20000 in
theorem gX1_grow_X1_isSlot : GoodIn wsX1_grow (va_wsS RX1 74 yX1_isSlot wsX1_isSlot) := goodIn_app (goodIn_of _ (by decide +kernel)) ggX1_grow_X1_isSlot
set_option maxRecDepth 20000 in
theorem ggX1_grow_X1_isOfOrNextTo : GoodIn wsX1_grow wsX1_isOfOrNextTo := goodIn_r _ [12, 13, 14, 15, 4, 16, 17, 18, 19, 20, 21, 22, 23, 24, 25, 26, 27, 28, 29, 30, 31, 32, 45, 46, 47, 48, 49, 50, 51] (by decide +kernel) (by decide +kernel)
set_option maxRecDepth 20000 in
theorem gX1_grow_X1_isOfOrNextTo : GoodIn wsX1_grow (wsV RX1 92 RX1 yX1_isOfOrNextTo wsX1_isOfOrNextTo) := goodIn_app (goodIn_of _ (by decide +kernel)) ggX1_grow_X1_isOfOrNextTo
set_option maxRecDepth 20000 in
theorem ggX1_grow_X1_isDeepIn : GoodIn wsX1_grow wsX1_isDeepIn := goodIn_r _ [36, 13, 14, 15, 4, 16, 17, 18, 19, 20, 21, 22, 23, 24, 25, 26, 27, 28, 29, 30, 31, 32, 45, 46, 47, 48, 49, 50, 51] (by decide +kernel) (by decide +kernel)
set_option maxRecDepth 20000 in
theorem gX1_grow_X1_isDeepIn : GoodIn wsX1_grow (wsV RX1 95 RX1 yX1_isDeepIn wsX1_isDeepIn) := goodIn_app (goodIn_of _ (by decide +kernel)) ggX1_grow_X1_isDeepIn
set_option maxRecDepth 20000 in
theorem ggX1_grow_X1_place : GoodIn wsX1_grow wsX1_place := goodIn_r _ [40, 17, 45, 46, 47, 48, 49] (by decide +kernel) (by decide +kernel)
set_option maxRecDepth 20000 in
theorem gX1_grow_X1_place : GoodIn wsX1_grow (wsV RX1 77 RX1 yX1_place wsX1_place) := goodIn_app (goodIn_of _ (by decide +kernel)) ggX1_grow_X1_place
set_option maxRecDepth 20000 in
theorem ggX1_grow_X1_sizeOf : GoodIn wsX1_grow wsX1_sizeOf := goodIn_r _ [44, 13, 14, 15, 4, 16, 17, 45, 46, 47, 48, 49] (by decide +kernel) (by decide +kernel)
set_option maxRecDepth 20000 in
theorem gX1_grow_X1_sizeOf : GoodIn wsX1_grow (wsV RX1 81 RX1 yX1_sizeOf wsX1_sizeOf) := goodIn_app (goodIn_of _ (by decide +kernel)) ggX1_grow_X1_sizeOf
theorem dX1_grow_0 : decode cX1_grow 0 = .ok (.iload_n 1, 1) := by decide +kernel
theorem dX1_grow_1 : decode cX1_grow 1 = .ok (.invokestatic 74, 3) := by decide +kernel
theorem dX1_grow_4 : decode cX1_grow 4 = .ok (.ifCond .eq 10, 3) := by decide +kernel
theorem dX1_grow_7 : decode cX1_grow 7 = .ok (.iload_n 2, 1) := by decide +kernel
theorem dX1_grow_8 : decode cX1_grow 8 = .ok (.invokestatic 74, 3) := by decide +kernel
theorem dX1_grow_11 : decode cX1_grow 11 = .ok (.ifCond .ne 5, 3) := by decide +kernel
theorem dX1_grow_14 : decode cX1_grow 14 = .ok (.iconst (-1), 1) := by decide +kernel
theorem dX1_grow_15 : decode cX1_grow 15 = .ok (.ireturn, 1) := by decide +kernel
theorem dX1_grow_16 : decode cX1_grow 16 = .ok (.iload_n 3, 1) := by decide +kernel
theorem dX1_grow_17 : decode cX1_grow 17 = .ok (.iconst 1, 1) := by decide +kernel
theorem dX1_grow_18 : decode cX1_grow 18 = .ok (.if_icmp .eq 11, 3) := by decide +kernel
theorem dX1_grow_21 : decode cX1_grow 21 = .ok (.iload_n 3, 1) := by decide +kernel
theorem dX1_grow_22 : decode cX1_grow 22 = .ok (.iconst (-1), 1) := by decide +kernel
theorem dX1_grow_23 : decode cX1_grow 23 = .ok (.if_icmp .eq 6, 3) := by decide +kernel
theorem dX1_grow_26 : decode cX1_grow 26 = .ok (.bipush (-2), 2) := by decide +kernel
theorem dX1_grow_28 : decode cX1_grow 28 = .ok (.ireturn, 1) := by decide +kernel
theorem dX1_grow_29 : decode cX1_grow 29 = .ok (.iconst 0, 1) := by decide +kernel
theorem dX1_grow_30 : decode cX1_grow 30 = .ok (.istore 4, 2) := by decide +kernel
theorem dX1_grow_32 : decode cX1_grow 32 = .ok (.iload 4, 2) := by decide +kernel
theorem dX1_grow_34 : decode cX1_grow 34 = .ok (.aload_n 0, 1) := by decide +kernel
theorem dX1_grow_35 : decode cX1_grow 35 = .ok (.getfield 24, 3) := by decide +kernel
theorem dX1_grow_38 : decode cX1_grow 38 = .ok (.arraylength, 1) := by decide +kernel
theorem dX1_grow_39 : decode cX1_grow 39 = .ok (.if_icmp .ge 50, 3) := by decide +kernel
theorem dX1_grow_42 : decode cX1_grow 42 = .ok (.iload_n 3, 1) := by decide +kernel
theorem dX1_grow_43 : decode cX1_grow 43 = .ok (.iconst 1, 1) := by decide +kernel
theorem dX1_grow_44 : decode cX1_grow 44 = .ok (.if_icmp .ne 13, 3) := by decide +kernel
theorem dX1_grow_47 : decode cX1_grow 47 = .ok (.aload_n 0, 1) := by decide +kernel
theorem dX1_grow_48 : decode cX1_grow 48 = .ok (.iload_n 2, 1) := by decide +kernel
theorem dX1_grow_49 : decode cX1_grow 49 = .ok (.iload 4, 2) := by decide +kernel
theorem dX1_grow_51 : decode cX1_grow 51 = .ok (.invokevirtual 92, 3) := by decide +kernel
theorem dX1_grow_54 : decode cX1_grow 54 = .ok (.goto 10, 3) := by decide +kernel
theorem dX1_grow_57 : decode cX1_grow 57 = .ok (.aload_n 0, 1) := by decide +kernel
theorem dX1_grow_58 : decode cX1_grow 58 = .ok (.iload_n 2, 1) := by decide +kernel
theorem dX1_grow_59 : decode cX1_grow 59 = .ok (.iload 4, 2) := by decide +kernel
theorem dX1_grow_61 : decode cX1_grow 61 = .ok (.invokevirtual 95, 3) := by decide +kernel
theorem dX1_grow_64 : decode cX1_grow 64 = .ok (.istore 5, 2) := by decide +kernel
theorem dX1_grow_66 : decode cX1_grow 66 = .ok (.aload_n 0, 1) := by decide +kernel
theorem dX1_grow_67 : decode cX1_grow 67 = .ok (.getfield 24, 3) := by decide +kernel
theorem dX1_grow_70 : decode cX1_grow 70 = .ok (.iload 4, 2) := by decide +kernel
theorem dX1_grow_72 : decode cX1_grow 72 = .ok (.iload 5, 2) := by decide +kernel
theorem dX1_grow_74 : decode cX1_grow 74 = .ok (.ifCond .eq 7, 3) := by decide +kernel
theorem dX1_grow_77 : decode cX1_grow 77 = .ok (.iconst 1, 1) := by decide +kernel
theorem dX1_grow_78 : decode cX1_grow 78 = .ok (.goto 4, 3) := by decide +kernel
theorem dX1_grow_81 : decode cX1_grow 81 = .ok (.iconst 0, 1) := by decide +kernel
theorem dX1_grow_82 : decode cX1_grow 82 = .ok (.iastore, 1) := by decide +kernel
theorem dX1_grow_83 : decode cX1_grow 83 = .ok (.iinc 4 1, 3) := by decide +kernel
theorem dX1_grow_86 : decode cX1_grow 86 = .ok (.goto (-54), 3) := by decide +kernel
theorem dX1_grow_89 : decode cX1_grow 89 = .ok (.iconst 0, 1) := by decide +kernel
theorem dX1_grow_90 : decode cX1_grow 90 = .ok (.istore 4, 2) := by decide +kernel
theorem dX1_grow_92 : decode cX1_grow 92 = .ok (.iload 4, 2) := by decide +kernel
theorem dX1_grow_94 : decode cX1_grow 94 = .ok (.aload_n 0, 1) := by decide +kernel
theorem dX1_grow_95 : decode cX1_grow 95 = .ok (.getfield 24, 3) := by decide +kernel
theorem dX1_grow_98 : decode cX1_grow 98 = .ok (.arraylength, 1) := by decide +kernel
theorem dX1_grow_99 : decode cX1_grow 99 = .ok (.if_icmp .ge 32, 3) := by decide +kernel
theorem dX1_grow_102 : decode cX1_grow 102 = .ok (.aload_n 0, 1) := by decide +kernel
theorem dX1_grow_103 : decode cX1_grow 103 = .ok (.iload_n 1, 1) := by decide +kernel
theorem dX1_grow_104 : decode cX1_grow 104 = .ok (.iload 4, 2) := by decide +kernel
theorem dX1_grow_106 : decode cX1_grow 106 = .ok (.aload_n 0, 1) := by decide +kernel
theorem dX1_grow_107 : decode cX1_grow 107 = .ok (.getfield 24, 3) := by decide +kernel
theorem dX1_grow_110 : decode cX1_grow 110 = .ok (.iload 4, 2) := by decide +kernel
theorem dX1_grow_112 : decode cX1_grow 112 = .ok (.iaload, 1) := by decide +kernel
theorem dX1_grow_113 : decode cX1_grow 113 = .ok (.iconst 1, 1) := by decide +kernel
theorem dX1_grow_114 : decode cX1_grow 114 = .ok (.if_icmp .ne 7, 3) := by decide +kernel
theorem dX1_grow_117 : decode cX1_grow 117 = .ok (.iconst 1, 1) := by decide +kernel
theorem dX1_grow_118 : decode cX1_grow 118 = .ok (.goto 4, 3) := by decide +kernel
theorem dX1_grow_121 : decode cX1_grow 121 = .ok (.iconst 0, 1) := by decide +kernel
theorem dX1_grow_122 : decode cX1_grow 122 = .ok (.invokevirtual 77, 3) := by decide +kernel
theorem dX1_grow_125 : decode cX1_grow 125 = .ok (.iinc 4 1, 3) := by decide +kernel
theorem dX1_grow_128 : decode cX1_grow 128 = .ok (.goto (-36), 3) := by decide +kernel
theorem dX1_grow_131 : decode cX1_grow 131 = .ok (.aload_n 0, 1) := by decide +kernel
theorem dX1_grow_132 : decode cX1_grow 132 = .ok (.iload_n 1, 1) := by decide +kernel
theorem dX1_grow_133 : decode cX1_grow 133 = .ok (.invokevirtual 81, 3) := by decide +kernel
theorem dX1_grow_136 : decode cX1_grow 136 = .ok (.ireturn, 1) := by decide +kernel
set_option maxRecDepth 20000 in
theorem ggX1_has_X1_isSlot : GoodIn wsX1_has wsX1_isSlot := goodIn_r _ [4, 5, 6, 3, 7] (by decide +kernel) (by decide +kernel)
set_option maxRecDepth 20000 in
theorem gX1_has_X1_isSlot : GoodIn wsX1_has (va_wsS RX1 74 yX1_isSlot wsX1_isSlot) := goodIn_app (goodIn_of _ (by decide +kernel)) ggX1_has_X1_isSlot
set_option maxRecDepth 20000 in
theorem ggX1_has_X1_isKey : GoodIn wsX1_has wsX1_isKey := goodIn_r _ [10, 5, 6, 3, 7] (by decide +kernel) (by decide +kernel)
set_option maxRecDepth 20000 in
theorem gX1_has_X1_isKey : GoodIn wsX1_has (va_wsS RX1 30 yX1_isKey wsX1_isKey) := goodIn_app (goodIn_of _ (by decide +kernel)) ggX1_has_X1_isKey
set_option maxRecDepth 20000 in
theorem ggX1_has_X1_holds : GoodIn wsX1_has wsX1_holds := goodIn_r _ [14, 15, 16, 17, 18, 19, 20] (by decide +kernel) (by decide +kernel)
set_option maxRecDepth 20000 in
theorem gX1_has_X1_holds : GoodIn wsX1_has (wsV RX1 84 RX1 yX1_holds wsX1_holds) := goodIn_app (goodIn_of _ (by decide +kernel)) ggX1_has_X1_holds
theorem dX1_has_0 : decode cX1_has 0 = .ok (.iload_n 1, 1) := by decide +kernel
theorem dX1_has_1 : decode cX1_has 1 = .ok (.invokestatic 74, 3) := by decide +kernel
theorem dX1_has_4 : decode cX1_has 4 = .ok (.ifCond .ne 5, 3) := by decide +kernel
theorem dX1_has_7 : decode cX1_has 7 = .ok (.iconst (-1), 1) := by decide +kernel
theorem dX1_has_8 : decode cX1_has 8 = .ok (.ireturn, 1) := by decide +kernel
theorem dX1_has_9 : decode cX1_has 9 = .ok (.iload_n 2, 1) := by decide +kernel
theorem dX1_has_10 : decode cX1_has 10 = .ok (.invokestatic 30, 3) := by decide +kernel
theorem dX1_has_13 : decode cX1_has 13 = .ok (.ifCond .ne 6, 3) := by decide +kernel
theorem dX1_has_16 : decode cX1_has 16 = .ok (.bipush (-2), 2) := by decide +kernel
theorem dX1_has_18 : decode cX1_has 18 = .ok (.ireturn, 1) := by decide +kernel
theorem dX1_has_19 : decode cX1_has 19 = .ok (.aload_n 0, 1) := by decide +kernel
theorem dX1_has_20 : decode cX1_has 20 = .ok (.iload_n 1, 1) := by decide +kernel
theorem dX1_has_21 : decode cX1_has 21 = .ok (.iload_n 2, 1) := by decide +kernel
theorem dX1_has_22 : decode cX1_has 22 = .ok (.invokevirtual 84, 3) := by decide +kernel
theorem dX1_has_25 : decode cX1_has 25 = .ok (.ifCond .eq 7, 3) := by decide +kernel
theorem dX1_has_28 : decode cX1_has 28 = .ok (.iconst 1, 1) := by decide +kernel
theorem dX1_has_29 : decode cX1_has 29 = .ok (.goto 4, 3) := by decide +kernel
theorem dX1_has_32 : decode cX1_has 32 = .ok (.iconst 0, 1) := by decide +kernel
theorem dX1_has_33 : decode cX1_has 33 = .ok (.ireturn, 1) := by decide +kernel
set_option maxRecDepth 20000 in
theorem ggX1_about_X1_isSlot : GoodIn wsX1_about wsX1_isSlot := goodIn_r _ [4, 5, 6, 3, 7] (by decide +kernel) (by decide +kernel)
set_option maxRecDepth 20000 in
theorem gX1_about_X1_isSlot : GoodIn wsX1_about (va_wsS RX1 74 yX1_isSlot wsX1_isSlot) := goodIn_app (goodIn_of _ (by decide +kernel)) ggX1_about_X1_isSlot
set_option maxRecDepth 20000 in
theorem ggX1_about_X1_sizeOf : GoodIn wsX1_about wsX1_sizeOf := goodIn_r _ [11, 12, 13, 14, 3, 15, 16, 105, 106, 107, 108, 109] (by decide +kernel) (by decide +kernel)
set_option maxRecDepth 20000 in
theorem gX1_about_X1_sizeOf : GoodIn wsX1_about (wsV RX1 81 RX1 yX1_sizeOf wsX1_sizeOf) := goodIn_app (goodIn_of _ (by decide +kernel)) ggX1_about_X1_sizeOf
set_option maxRecDepth 20000 in
theorem ggX1_about_X1_countPacked : GoodIn wsX1_about wsX1_countPacked := goodIn_r _ [20, 12, 13, 14, 3, 15, 16, 21, 22, 23, 24, 25, 26, 27, 28, 29, 30, 31, 32, 33, 34, 105, 106, 107, 108, 109] (by decide +kernel) (by decide +kernel)
set_option maxRecDepth 20000 in
theorem gX1_about_X1_countPacked : GoodIn wsX1_about (wsV RX1 98 RX1 yX1_countPacked wsX1_countPacked) := goodIn_app (goodIn_of _ (by decide +kernel)) ggX1_about_X1_countPacked
set_option maxRecDepth 20000 in
theorem ggX1_about_X1_borderOf : GoodIn wsX1_about wsX1_borderOf := goodIn_r _ [38, 12, 13, 14, 3, 15, 16, 39, 40, 41, 42, 43, 44, 45, 46, 47, 48, 49, 50, 51, 52, 53, 105, 106, 107, 108, 109, 110, 111] (by decide +kernel) (by decide +kernel)
set_option maxRecDepth 20000 in
theorem gX1_about_X1_borderOf : GoodIn wsX1_about (wsV RX1 101 RX1 yX1_borderOf wsX1_borderOf) := goodIn_app (goodIn_of _ (by decide +kernel)) ggX1_about_X1_borderOf
set_option maxRecDepth 20000 in
theorem ggX1_about_X1_countPieces : GoodIn wsX1_about wsX1_countPieces := goodIn_r _ [57, 58, 59, 60, 61, 62, 63, 64, 65, 3, 66, 12, 13, 14, 15, 16, 67, 68, 69, 70, 71, 52, 53, 72, 73, 74, 75, 76, 77, 78, 79, 80, 81, 82, 83, 84, 85, 86, 87, 88, 43, 44, 45, 46, 47, 48, 49, 50, 51, 105, 106, 107, 108, 109, 110, 111] (by decide +kernel) (by decide +kernel)
set_option maxRecDepth 20000 in
theorem gX1_about_X1_countPieces : GoodIn wsX1_about (wsV RX1 104 RX1 yX1_countPieces wsX1_countPieces) := goodIn_app (goodIn_of _ (by decide +kernel)) ggX1_about_X1_countPieces
set_option maxRecDepth 20000 in
theorem ggX1_about_X1_greatestPiece : GoodIn wsX1_about wsX1_greatestPiece := goodIn_r _ [92, 58, 93, 94, 95, 96, 59, 60, 61, 62, 63, 64, 65, 3, 66, 12, 13, 14, 15, 16, 67, 68, 69, 70, 71, 52, 53, 72, 73, 74, 75, 76, 77, 78, 79, 80, 81, 82, 83, 84, 85, 86, 87, 88, 43, 44, 45, 46, 47, 48, 49, 50, 51, 105, 106, 107, 108, 109, 110, 111] (by decide +kernel) (by decide +kernel)
set_option maxRecDepth 20000 in
theorem gX1_about_X1_greatestPiece : GoodIn wsX1_about (wsV RX1 107 RX1 yX1_greatestPiece wsX1_greatestPiece) := goodIn_app (goodIn_of _ (by decide +kernel)) ggX1_about_X1_greatestPiece
set_option maxRecDepth 20000 in
theorem ggX1_about_X1_leastKey : GoodIn wsX1_about wsX1_leastKey := goodIn_r _ [100, 12, 13, 14, 3, 15, 16, 105, 106, 107, 108, 109] (by decide +kernel) (by decide +kernel)
set_option maxRecDepth 20000 in
theorem gX1_about_X1_leastKey : GoodIn wsX1_about (wsV RX1 110 RX1 yX1_leastKey wsX1_leastKey) := goodIn_app (goodIn_of _ (by decide +kernel)) ggX1_about_X1_leastKey
set_option maxRecDepth 20000 in
theorem ggX1_about_X1_greatestKey : GoodIn wsX1_about wsX1_greatestKey := goodIn_r _ [104, 12, 13, 14, 3, 15, 16, 105, 106, 107, 108, 109] (by decide +kernel) (by decide +kernel)
set_option maxRecDepth 20000 in
theorem gX1_about_X1_greatestKey : GoodIn wsX1_about (wsV RX1 113 RX1 yX1_greatestKey wsX1_greatestKey) := goodIn_app (goodIn_of _ (by decide +kernel)) ggX1_about_X1_greatestKey
theorem dX1_about_0 : decode cX1_about 0 = .ok (.iload_n 1, 1) := by decide +kernel
theorem dX1_about_1 : decode cX1_about 1 = .ok (.invokestatic 74, 3) := by decide +kernel
theorem dX1_about_4 : decode cX1_about 4 = .ok (.ifCond .ne 5, 3) := by decide +kernel
theorem dX1_about_7 : decode cX1_about 7 = .ok (.iconst (-1), 1) := by decide +kernel
theorem dX1_about_8 : decode cX1_about 8 = .ok (.ireturn, 1) := by decide +kernel
theorem dX1_about_9 : decode cX1_about 9 = .ok (.iload_n 2, 1) := by decide +kernel
theorem dX1_about_10 : decode cX1_about 10 = .ok (.tableswitch 84 0 6 #[42, 48, 54, 60, 66, 72, 78], 42) := by decide +kernel
theorem dX1_about_52 : decode cX1_about 52 = .ok (.aload_n 0, 1) := by decide +kernel
theorem dX1_about_53 : decode cX1_about 53 = .ok (.iload_n 1, 1) := by decide +kernel
theorem dX1_about_54 : decode cX1_about 54 = .ok (.invokevirtual 81, 3) := by decide +kernel
theorem dX1_about_57 : decode cX1_about 57 = .ok (.ireturn, 1) := by decide +kernel
theorem dX1_about_58 : decode cX1_about 58 = .ok (.aload_n 0, 1) := by decide +kernel
theorem dX1_about_59 : decode cX1_about 59 = .ok (.iload_n 1, 1) := by decide +kernel
theorem dX1_about_60 : decode cX1_about 60 = .ok (.invokevirtual 98, 3) := by decide +kernel
theorem dX1_about_63 : decode cX1_about 63 = .ok (.ireturn, 1) := by decide +kernel
theorem dX1_about_64 : decode cX1_about 64 = .ok (.aload_n 0, 1) := by decide +kernel
theorem dX1_about_65 : decode cX1_about 65 = .ok (.iload_n 1, 1) := by decide +kernel
theorem dX1_about_66 : decode cX1_about 66 = .ok (.invokevirtual 101, 3) := by decide +kernel
theorem dX1_about_69 : decode cX1_about 69 = .ok (.ireturn, 1) := by decide +kernel
theorem dX1_about_70 : decode cX1_about 70 = .ok (.aload_n 0, 1) := by decide +kernel
theorem dX1_about_71 : decode cX1_about 71 = .ok (.iload_n 1, 1) := by decide +kernel
theorem dX1_about_72 : decode cX1_about 72 = .ok (.invokevirtual 104, 3) := by decide +kernel
theorem dX1_about_75 : decode cX1_about 75 = .ok (.ireturn, 1) := by decide +kernel
theorem dX1_about_76 : decode cX1_about 76 = .ok (.aload_n 0, 1) := by decide +kernel
theorem dX1_about_77 : decode cX1_about 77 = .ok (.iload_n 1, 1) := by decide +kernel
theorem dX1_about_78 : decode cX1_about 78 = .ok (.invokevirtual 107, 3) := by decide +kernel
theorem dX1_about_81 : decode cX1_about 81 = .ok (.ireturn, 1) := by decide +kernel
theorem dX1_about_82 : decode cX1_about 82 = .ok (.aload_n 0, 1) := by decide +kernel
theorem dX1_about_83 : decode cX1_about 83 = .ok (.iload_n 1, 1) := by decide +kernel
theorem dX1_about_84 : decode cX1_about 84 = .ok (.invokevirtual 110, 3) := by decide +kernel
theorem dX1_about_87 : decode cX1_about 87 = .ok (.ireturn, 1) := by decide +kernel
theorem dX1_about_88 : decode cX1_about 88 = .ok (.aload_n 0, 1) := by decide +kernel
theorem dX1_about_89 : decode cX1_about 89 = .ok (.iload_n 1, 1) := by decide +kernel
theorem dX1_about_90 : decode cX1_about 90 = .ok (.invokevirtual 113, 3) := by decide +kernel
theorem dX1_about_93 : decode cX1_about 93 = .ok (.ireturn, 1) := by decide +kernel
theorem dX1_about_94 : decode cX1_about 94 = .ok (.bipush (-2), 2) := by decide +kernel
theorem dX1_about_96 : decode cX1_about 96 = .ok (.ireturn, 1) := by decide +kernel
set_option maxRecDepth 20000 in
theorem ggX1_packed_X1_isSlot : GoodIn wsX1_packed wsX1_isSlot := goodIn_r _ [4, 5, 6, 3, 7] (by decide +kernel) (by decide +kernel)
set_option maxRecDepth 20000 in
theorem gX1_packed_X1_isSlot : GoodIn wsX1_packed (va_wsS RX1 74 yX1_isSlot wsX1_isSlot) := goodIn_app (goodIn_of _ (by decide +kernel)) ggX1_packed_X1_isSlot
set_option maxRecDepth 20000 in
theorem ggX1_packed_X1_within : GoodIn wsX1_packed wsX1_within := goodIn_r _ [7] (by decide +kernel) (by decide +kernel)
set_option maxRecDepth 20000 in
theorem gX1_packed_X1_within : GoodIn wsX1_packed (va_wsS RX1 34 yX1_within wsX1_within) := goodIn_app (goodIn_of _ (by decide +kernel)) ggX1_packed_X1_within
set_option maxRecDepth 20000 in
theorem ggX1_packed_X1_packedKey : GoodIn wsX1_packed wsX1_packedKey := goodIn_r _ [11, 12, 13, 14, 3, 15, 16, 17, 18, 19, 20, 21, 22, 23, 24, 25, 26, 27, 28, 29, 30, 31, 32, 33, 34, 35] (by decide +kernel) (by decide +kernel)
set_option maxRecDepth 20000 in
theorem gX1_packed_X1_packedKey : GoodIn wsX1_packed (wsV RX1 116 RX1 yX1_packedKey wsX1_packedKey) := goodIn_app (goodIn_of _ (by decide +kernel)) ggX1_packed_X1_packedKey
set_option maxRecDepth 20000 in
theorem ggX1_packed_X1_packedLevel : GoodIn wsX1_packed wsX1_packedLevel := goodIn_r _ [20, 21, 22, 23, 3, 24, 25, 26, 27, 28, 29, 30, 12, 13, 14, 15, 16, 31, 32, 33, 34, 35] (by decide +kernel) (by decide +kernel)
set_option maxRecDepth 20000 in
theorem gX1_packed_X1_packedLevel : GoodIn wsX1_packed (wsV RX1 119 RX1 yX1_packedLevel wsX1_packedLevel) := goodIn_app (goodIn_of _ (by decide +kernel)) ggX1_packed_X1_packedLevel
theorem dX1_packed_0 : decode cX1_packed 0 = .ok (.iload_n 1, 1) := by decide +kernel
theorem dX1_packed_1 : decode cX1_packed 1 = .ok (.invokestatic 74, 3) := by decide +kernel
theorem dX1_packed_4 : decode cX1_packed 4 = .ok (.ifCond .ne 5, 3) := by decide +kernel
theorem dX1_packed_7 : decode cX1_packed 7 = .ok (.iconst (-1), 1) := by decide +kernel
theorem dX1_packed_8 : decode cX1_packed 8 = .ok (.ireturn, 1) := by decide +kernel
theorem dX1_packed_9 : decode cX1_packed 9 = .ok (.iload_n 3, 1) := by decide +kernel
theorem dX1_packed_10 : decode cX1_packed 10 = .ok (.iconst 0, 1) := by decide +kernel
theorem dX1_packed_11 : decode cX1_packed 11 = .ok (.iconst 1, 1) := by decide +kernel
theorem dX1_packed_12 : decode cX1_packed 12 = .ok (.invokestatic 34, 3) := by decide +kernel
theorem dX1_packed_15 : decode cX1_packed 15 = .ok (.ifCond .ne 6, 3) := by decide +kernel
theorem dX1_packed_18 : decode cX1_packed 18 = .ok (.bipush (-2), 2) := by decide +kernel
theorem dX1_packed_20 : decode cX1_packed 20 = .ok (.ireturn, 1) := by decide +kernel
theorem dX1_packed_21 : decode cX1_packed 21 = .ok (.aload_n 0, 1) := by decide +kernel
theorem dX1_packed_22 : decode cX1_packed 22 = .ok (.iload_n 1, 1) := by decide +kernel
theorem dX1_packed_23 : decode cX1_packed 23 = .ok (.iload_n 2, 1) := by decide +kernel
theorem dX1_packed_24 : decode cX1_packed 24 = .ok (.invokevirtual 116, 3) := by decide +kernel
theorem dX1_packed_27 : decode cX1_packed 27 = .ok (.istore 4, 2) := by decide +kernel
theorem dX1_packed_29 : decode cX1_packed 29 = .ok (.iload 4, 2) := by decide +kernel
theorem dX1_packed_31 : decode cX1_packed 31 = .ok (.bipush (-6), 2) := by decide +kernel
theorem dX1_packed_33 : decode cX1_packed 33 = .ok (.if_icmp .eq 7, 3) := by decide +kernel
theorem dX1_packed_36 : decode cX1_packed 36 = .ok (.iload_n 3, 1) := by decide +kernel
theorem dX1_packed_37 : decode cX1_packed 37 = .ok (.ifCond .ne 6, 3) := by decide +kernel
theorem dX1_packed_40 : decode cX1_packed 40 = .ok (.iload 4, 2) := by decide +kernel
theorem dX1_packed_42 : decode cX1_packed 42 = .ok (.ireturn, 1) := by decide +kernel
theorem dX1_packed_43 : decode cX1_packed 43 = .ok (.aload_n 0, 1) := by decide +kernel
theorem dX1_packed_44 : decode cX1_packed 44 = .ok (.iload_n 1, 1) := by decide +kernel
theorem dX1_packed_45 : decode cX1_packed 45 = .ok (.iload 4, 2) := by decide +kernel
theorem dX1_packed_47 : decode cX1_packed 47 = .ok (.invokevirtual 119, 3) := by decide +kernel
theorem dX1_packed_50 : decode cX1_packed 50 = .ok (.ireturn, 1) := by decide +kernel
set_option maxRecDepth 20000 in
theorem ggX1_piece_X1_isSlot : GoodIn wsX1_piece wsX1_isSlot := goodIn_r _ [5, 6, 7, 4, 8] (by decide +kernel) (by decide +kernel)
set_option maxRecDepth 20000 in
theorem gX1_piece_X1_isSlot : GoodIn wsX1_piece (va_wsS RX1 74 yX1_isSlot wsX1_isSlot) := goodIn_app (goodIn_of _ (by decide +kernel)) ggX1_piece_X1_isSlot
set_option maxRecDepth 20000 in
theorem ggX1_piece_X1_isKey : GoodIn wsX1_piece wsX1_isKey := goodIn_r _ [11, 6, 7, 4, 8] (by decide +kernel) (by decide +kernel)
set_option maxRecDepth 20000 in
theorem gX1_piece_X1_isKey : GoodIn wsX1_piece (va_wsS RX1 30 yX1_isKey wsX1_isKey) := goodIn_app (goodIn_of _ (by decide +kernel)) ggX1_piece_X1_isKey
set_option maxRecDepth 20000 in
theorem ggX1_piece_X1_holds : GoodIn wsX1_piece wsX1_holds := goodIn_r _ [15, 16, 58, 59, 60, 61, 62] (by decide +kernel) (by decide +kernel)
set_option maxRecDepth 20000 in
theorem gX1_piece_X1_holds : GoodIn wsX1_piece (wsV RX1 84 RX1 yX1_holds wsX1_holds) := goodIn_app (goodIn_of _ (by decide +kernel)) ggX1_piece_X1_holds
set_option maxRecDepth 20000 in
theorem ggX1_piece_J7_fill_53178 : GoodIn wsX1_piece wsJ7_fill_53178 := goodIn_r _ [20] (by decide +kernel) (by decide +kernel)
set_option maxRecDepth 20000 in
theorem gX1_piece_J7_fill_53178 : GoodIn wsX1_piece (va_wsS RX1 61 yJ7_fill_53178 wsJ7_fill_53178) := goodIn_app (goodIn_of _ (by decide +kernel)) ggX1_piece_J7_fill_53178
set_option maxRecDepth 20000 in
theorem ggX1_piece_X1_startsPiece : GoodIn wsX1_piece wsX1_startsPiece := goodIn_r _ [24, 12, 13, 14, 4, 15, 16, 25, 26, 27, 28, 1, 29, 30, 31, 58, 59, 60, 61, 62] (by decide +kernel) (by decide +kernel)
set_option maxRecDepth 20000 in
theorem gX1_piece_X1_startsPiece : GoodIn wsX1_piece (wsV RX1 122 RX1 yX1_startsPiece wsX1_startsPiece) := goodIn_app (goodIn_of _ (by decide +kernel)) ggX1_piece_X1_startsPiece
set_option maxRecDepth 20000 in
theorem ggX1_piece_X1_flood : GoodIn wsX1_piece wsX1_flood := goodIn_r _ [35, 36, 37, 38, 39, 4, 40, 1, 41, 42, 43, 44, 45, 46, 47, 48, 49, 29, 30, 31, 50, 51, 52, 53, 54, 55, 56, 57, 21, 22, 23, 24, 12, 13, 14, 15, 16, 25, 26, 27, 28, 58, 59, 60, 61, 62, 63, 64] (by decide +kernel) (by decide +kernel)
set_option maxRecDepth 20000 in
theorem gX1_piece_X1_flood : GoodIn wsX1_piece (wsV RX1 125 RX1 yX1_flood wsX1_flood) := goodIn_app (goodIn_of _ (by decide +kernel)) ggX1_piece_X1_flood
set_option maxRecDepth 20000 in
theorem ggX1_piece_X1_isMarked : GoodIn wsX1_piece wsX1_isMarked := goodIn_r _ [28, 1, 29, 30, 4, 31, 58, 59, 60, 61, 62] (by decide +kernel) (by decide +kernel)
set_option maxRecDepth 20000 in
theorem gX1_piece_X1_isMarked : GoodIn wsX1_piece (wsV RX1 128 RX1 yX1_isMarked wsX1_isMarked) := goodIn_app (goodIn_of _ (by decide +kernel)) ggX1_piece_X1_isMarked
theorem dX1_piece_0 : decode cX1_piece 0 = .ok (.iload_n 1, 1) := by decide +kernel
theorem dX1_piece_1 : decode cX1_piece 1 = .ok (.invokestatic 74, 3) := by decide +kernel
theorem dX1_piece_4 : decode cX1_piece 4 = .ok (.ifCond .ne 5, 3) := by decide +kernel
theorem dX1_piece_7 : decode cX1_piece 7 = .ok (.iconst (-1), 1) := by decide +kernel
theorem dX1_piece_8 : decode cX1_piece 8 = .ok (.ireturn, 1) := by decide +kernel
theorem dX1_piece_9 : decode cX1_piece 9 = .ok (.iload_n 2, 1) := by decide +kernel
theorem dX1_piece_10 : decode cX1_piece 10 = .ok (.invokestatic 30, 3) := by decide +kernel
theorem dX1_piece_13 : decode cX1_piece 13 = .ok (.ifCond .ne 6, 3) := by decide +kernel
theorem dX1_piece_16 : decode cX1_piece 16 = .ok (.bipush (-2), 2) := by decide +kernel
theorem dX1_piece_18 : decode cX1_piece 18 = .ok (.ireturn, 1) := by decide +kernel
theorem dX1_piece_19 : decode cX1_piece 19 = .ok (.aload_n 0, 1) := by decide +kernel
theorem dX1_piece_20 : decode cX1_piece 20 = .ok (.iload_n 1, 1) := by decide +kernel
theorem dX1_piece_21 : decode cX1_piece 21 = .ok (.iload_n 2, 1) := by decide +kernel
theorem dX1_piece_22 : decode cX1_piece 22 = .ok (.invokevirtual 84, 3) := by decide +kernel
theorem dX1_piece_25 : decode cX1_piece 25 = .ok (.ifCond .ne 6, 3) := by decide +kernel
theorem dX1_piece_28 : decode cX1_piece 28 = .ok (.bipush (-6), 2) := by decide +kernel
theorem dX1_piece_30 : decode cX1_piece 30 = .ok (.ireturn, 1) := by decide +kernel
theorem dX1_piece_31 : decode cX1_piece 31 = .ok (.aload_n 0, 1) := by decide +kernel
theorem dX1_piece_32 : decode cX1_piece 32 = .ok (.getfield 24, 3) := by decide +kernel
theorem dX1_piece_35 : decode cX1_piece 35 = .ok (.iconst 0, 1) := by decide +kernel
theorem dX1_piece_36 : decode cX1_piece 36 = .ok (.invokestatic 61, 3) := by decide +kernel
theorem dX1_piece_39 : decode cX1_piece 39 = .ok (.iconst 0, 1) := by decide +kernel
theorem dX1_piece_40 : decode cX1_piece 40 = .ok (.istore_n 3, 1) := by decide +kernel
theorem dX1_piece_41 : decode cX1_piece 41 = .ok (.iconst 0, 1) := by decide +kernel
theorem dX1_piece_42 : decode cX1_piece 42 = .ok (.istore 4, 2) := by decide +kernel
theorem dX1_piece_44 : decode cX1_piece 44 = .ok (.iload 4, 2) := by decide +kernel
theorem dX1_piece_46 : decode cX1_piece 46 = .ok (.iload_n 2, 1) := by decide +kernel
theorem dX1_piece_47 : decode cX1_piece 47 = .ok (.if_icmp .ge 40, 3) := by decide +kernel
theorem dX1_piece_50 : decode cX1_piece 50 = .ok (.aload_n 0, 1) := by decide +kernel
theorem dX1_piece_51 : decode cX1_piece 51 = .ok (.iload_n 1, 1) := by decide +kernel
theorem dX1_piece_52 : decode cX1_piece 52 = .ok (.iload 4, 2) := by decide +kernel
theorem dX1_piece_54 : decode cX1_piece 54 = .ok (.invokevirtual 122, 3) := by decide +kernel
theorem dX1_piece_57 : decode cX1_piece 57 = .ok (.ifCond .eq 24, 3) := by decide +kernel
theorem dX1_piece_60 : decode cX1_piece 60 = .ok (.aload_n 0, 1) := by decide +kernel
theorem dX1_piece_61 : decode cX1_piece 61 = .ok (.iload_n 1, 1) := by decide +kernel
theorem dX1_piece_62 : decode cX1_piece 62 = .ok (.iload 4, 2) := by decide +kernel
theorem dX1_piece_64 : decode cX1_piece 64 = .ok (.invokevirtual 125, 3) := by decide +kernel
theorem dX1_piece_67 : decode cX1_piece 67 = .ok (.pop, 1) := by decide +kernel
theorem dX1_piece_68 : decode cX1_piece 68 = .ok (.aload_n 0, 1) := by decide +kernel
theorem dX1_piece_69 : decode cX1_piece 69 = .ok (.iload_n 2, 1) := by decide +kernel
theorem dX1_piece_70 : decode cX1_piece 70 = .ok (.invokevirtual 128, 3) := by decide +kernel
theorem dX1_piece_73 : decode cX1_piece 73 = .ok (.ifCond .eq 5, 3) := by decide +kernel
theorem dX1_piece_76 : decode cX1_piece 76 = .ok (.iload_n 3, 1) := by decide +kernel
theorem dX1_piece_77 : decode cX1_piece 77 = .ok (.ireturn, 1) := by decide +kernel
theorem dX1_piece_78 : decode cX1_piece 78 = .ok (.iinc 3 1, 3) := by decide +kernel
theorem dX1_piece_81 : decode cX1_piece 81 = .ok (.iinc 4 1, 3) := by decide +kernel
theorem dX1_piece_84 : decode cX1_piece 84 = .ok (.goto (-40), 3) := by decide +kernel
theorem dX1_piece_87 : decode cX1_piece 87 = .ok (.iload_n 3, 1) := by decide +kernel
theorem dX1_piece_88 : decode cX1_piece 88 = .ok (.ireturn, 1) := by decide +kernel
set_option maxRecDepth 20000 in
theorem ggX1_way_X1_isSlot : GoodIn wsX1_way wsX1_isSlot := goodIn_r _ [5, 6, 7, 4, 8] (by decide +kernel) (by decide +kernel)
set_option maxRecDepth 20000 in
theorem gX1_way_X1_isSlot : GoodIn wsX1_way (va_wsS RX1 74 yX1_isSlot wsX1_isSlot) := goodIn_app (goodIn_of _ (by decide +kernel)) ggX1_way_X1_isSlot
set_option maxRecDepth 20000 in
theorem ggX1_way_X1_isKey : GoodIn wsX1_way wsX1_isKey := goodIn_r _ [11, 6, 7, 4, 8] (by decide +kernel) (by decide +kernel)
set_option maxRecDepth 20000 in
theorem gX1_way_X1_isKey : GoodIn wsX1_way (va_wsS RX1 30 yX1_isKey wsX1_isKey) := goodIn_app (goodIn_of _ (by decide +kernel)) ggX1_way_X1_isKey
set_option maxRecDepth 20000 in
theorem ggX1_way_X1_holds : GoodIn wsX1_way wsX1_holds := goodIn_r _ [15, 16, 58, 59, 60, 61, 62] (by decide +kernel) (by decide +kernel)
set_option maxRecDepth 20000 in
theorem gX1_way_X1_holds : GoodIn wsX1_way (wsV RX1 84 RX1 yX1_holds wsX1_holds) := goodIn_app (goodIn_of _ (by decide +kernel)) ggX1_way_X1_holds
set_option maxRecDepth 20000 in
theorem ggX1_way_J7_fill_53178 : GoodIn wsX1_way wsJ7_fill_53178 := goodIn_r _ [20] (by decide +kernel) (by decide +kernel)
set_option maxRecDepth 20000 in
theorem gX1_way_J7_fill_53178 : GoodIn wsX1_way (va_wsS RX1 61 yJ7_fill_53178 wsJ7_fill_53178) := goodIn_app (goodIn_of _ (by decide +kernel)) ggX1_way_J7_fill_53178
set_option maxRecDepth 20000 in
theorem ggX1_way_X1_flood : GoodIn wsX1_way wsX1_flood := goodIn_r _ [24, 25, 26, 27, 28, 4, 29, 1, 30, 31, 32, 33, 34, 35, 36, 37, 38, 39, 40, 41, 42, 43, 44, 45, 46, 47, 48, 49, 50, 51, 52, 53, 12, 13, 14, 15, 16, 54, 55, 56, 57, 58, 59, 60, 61, 62, 63, 64] (by decide +kernel) (by decide +kernel)
set_option maxRecDepth 20000 in
theorem gX1_way_X1_flood : GoodIn wsX1_way (wsV RX1 125 RX1 yX1_flood wsX1_flood) := goodIn_app (goodIn_of _ (by decide +kernel)) ggX1_way_X1_flood
set_option maxRecDepth 20000 in
theorem ggX1_way_X1_isMarked : GoodIn wsX1_way wsX1_isMarked := goodIn_r _ [57, 1, 39, 40, 4, 41, 58, 59, 60, 61, 62] (by decide +kernel) (by decide +kernel)
set_option maxRecDepth 20000 in
theorem gX1_way_X1_isMarked : GoodIn wsX1_way (wsV RX1 128 RX1 yX1_isMarked wsX1_isMarked) := goodIn_app (goodIn_of _ (by decide +kernel)) ggX1_way_X1_isMarked
set_option maxRecDepth 20000 in
theorem ggX1_way_X1_valueAt : GoodIn wsX1_way wsX1_valueAt := goodIn_r _ [41] (by decide +kernel) (by decide +kernel)
set_option maxRecDepth 20000 in
theorem gX1_way_X1_valueAt : GoodIn wsX1_way (va_wsS RX1 131 yX1_valueAt wsX1_valueAt) := goodIn_app (goodIn_of _ (by decide +kernel)) ggX1_way_X1_valueAt
theorem dX1_way_0 : decode cX1_way 0 = .ok (.iload_n 1, 1) := by decide +kernel
theorem dX1_way_1 : decode cX1_way 1 = .ok (.invokestatic 74, 3) := by decide +kernel
theorem dX1_way_4 : decode cX1_way 4 = .ok (.ifCond .ne 5, 3) := by decide +kernel
theorem dX1_way_7 : decode cX1_way 7 = .ok (.iconst (-1), 1) := by decide +kernel
theorem dX1_way_8 : decode cX1_way 8 = .ok (.ireturn, 1) := by decide +kernel
theorem dX1_way_9 : decode cX1_way 9 = .ok (.iload_n 2, 1) := by decide +kernel
theorem dX1_way_10 : decode cX1_way 10 = .ok (.invokestatic 30, 3) := by decide +kernel
theorem dX1_way_13 : decode cX1_way 13 = .ok (.ifCond .eq 10, 3) := by decide +kernel
theorem dX1_way_16 : decode cX1_way 16 = .ok (.iload_n 3, 1) := by decide +kernel
theorem dX1_way_17 : decode cX1_way 17 = .ok (.invokestatic 30, 3) := by decide +kernel
theorem dX1_way_20 : decode cX1_way 20 = .ok (.ifCond .ne 6, 3) := by decide +kernel
theorem dX1_way_23 : decode cX1_way 23 = .ok (.bipush (-2), 2) := by decide +kernel
theorem dX1_way_25 : decode cX1_way 25 = .ok (.ireturn, 1) := by decide +kernel
theorem dX1_way_26 : decode cX1_way 26 = .ok (.aload_n 0, 1) := by decide +kernel
theorem dX1_way_27 : decode cX1_way 27 = .ok (.iload_n 1, 1) := by decide +kernel
theorem dX1_way_28 : decode cX1_way 28 = .ok (.iload_n 2, 1) := by decide +kernel
theorem dX1_way_29 : decode cX1_way 29 = .ok (.invokevirtual 84, 3) := by decide +kernel
theorem dX1_way_32 : decode cX1_way 32 = .ok (.ifCond .eq 12, 3) := by decide +kernel
theorem dX1_way_35 : decode cX1_way 35 = .ok (.aload_n 0, 1) := by decide +kernel
theorem dX1_way_36 : decode cX1_way 36 = .ok (.iload_n 1, 1) := by decide +kernel
theorem dX1_way_37 : decode cX1_way 37 = .ok (.iload_n 3, 1) := by decide +kernel
theorem dX1_way_38 : decode cX1_way 38 = .ok (.invokevirtual 84, 3) := by decide +kernel
theorem dX1_way_41 : decode cX1_way 41 = .ok (.ifCond .ne 6, 3) := by decide +kernel
theorem dX1_way_44 : decode cX1_way 44 = .ok (.bipush (-6), 2) := by decide +kernel
theorem dX1_way_46 : decode cX1_way 46 = .ok (.ireturn, 1) := by decide +kernel
theorem dX1_way_47 : decode cX1_way 47 = .ok (.aload_n 0, 1) := by decide +kernel
theorem dX1_way_48 : decode cX1_way 48 = .ok (.getfield 24, 3) := by decide +kernel
theorem dX1_way_51 : decode cX1_way 51 = .ok (.iconst 0, 1) := by decide +kernel
theorem dX1_way_52 : decode cX1_way 52 = .ok (.invokestatic 61, 3) := by decide +kernel
theorem dX1_way_55 : decode cX1_way 55 = .ok (.aload_n 0, 1) := by decide +kernel
theorem dX1_way_56 : decode cX1_way 56 = .ok (.iload_n 1, 1) := by decide +kernel
theorem dX1_way_57 : decode cX1_way 57 = .ok (.iload_n 2, 1) := by decide +kernel
theorem dX1_way_58 : decode cX1_way 58 = .ok (.invokevirtual 125, 3) := by decide +kernel
theorem dX1_way_61 : decode cX1_way 61 = .ok (.pop, 1) := by decide +kernel
theorem dX1_way_62 : decode cX1_way 62 = .ok (.aload_n 0, 1) := by decide +kernel
theorem dX1_way_63 : decode cX1_way 63 = .ok (.iload_n 3, 1) := by decide +kernel
theorem dX1_way_64 : decode cX1_way 64 = .ok (.invokevirtual 128, 3) := by decide +kernel
theorem dX1_way_67 : decode cX1_way 67 = .ok (.ifCond .eq 16, 3) := by decide +kernel
theorem dX1_way_70 : decode cX1_way 70 = .ok (.aload_n 0, 1) := by decide +kernel
theorem dX1_way_71 : decode cX1_way 71 = .ok (.getfield 24, 3) := by decide +kernel
theorem dX1_way_74 : decode cX1_way 74 = .ok (.iload_n 3, 1) := by decide +kernel
theorem dX1_way_75 : decode cX1_way 75 = .ok (.invokestatic 131, 3) := by decide +kernel
theorem dX1_way_78 : decode cX1_way 78 = .ok (.iconst 1, 1) := by decide +kernel
theorem dX1_way_79 : decode cX1_way 79 = .ok (.isub, 1) := by decide +kernel
theorem dX1_way_80 : decode cX1_way 80 = .ok (.goto 5, 3) := by decide +kernel
theorem dX1_way_83 : decode cX1_way 83 = .ok (.bipush (-6), 2) := by decide +kernel
theorem dX1_way_85 : decode cX1_way 85 = .ok (.ireturn, 1) := by decide +kernel
set_option maxRecDepth 20000 in
theorem ggX1_alike_X1_isSlot : GoodIn wsX1_alike wsX1_isSlot := goodIn_r _ [4, 5, 6, 3, 7] (by decide +kernel) (by decide +kernel)
set_option maxRecDepth 20000 in
theorem gX1_alike_X1_isSlot : GoodIn wsX1_alike (va_wsS RX1 74 yX1_isSlot wsX1_isSlot) := goodIn_app (goodIn_of _ (by decide +kernel)) ggX1_alike_X1_isSlot
set_option maxRecDepth 20000 in
theorem ggX1_alike_X1_holds : GoodIn wsX1_alike wsX1_holds := goodIn_r _ [11, 12, 13, 14, 15, 16, 17] (by decide +kernel) (by decide +kernel)
set_option maxRecDepth 20000 in
theorem gX1_alike_X1_holds : GoodIn wsX1_alike (wsV RX1 84 RX1 yX1_holds wsX1_holds) := goodIn_app (goodIn_of _ (by decide +kernel)) ggX1_alike_X1_holds
theorem dX1_alike_0 : decode cX1_alike 0 = .ok (.iload_n 1, 1) := by decide +kernel
theorem dX1_alike_1 : decode cX1_alike 1 = .ok (.invokestatic 74, 3) := by decide +kernel
theorem dX1_alike_4 : decode cX1_alike 4 = .ok (.ifCond .eq 10, 3) := by decide +kernel
theorem dX1_alike_7 : decode cX1_alike 7 = .ok (.iload_n 2, 1) := by decide +kernel
theorem dX1_alike_8 : decode cX1_alike 8 = .ok (.invokestatic 74, 3) := by decide +kernel
theorem dX1_alike_11 : decode cX1_alike 11 = .ok (.ifCond .ne 5, 3) := by decide +kernel
theorem dX1_alike_14 : decode cX1_alike 14 = .ok (.iconst (-1), 1) := by decide +kernel
theorem dX1_alike_15 : decode cX1_alike 15 = .ok (.ireturn, 1) := by decide +kernel
theorem dX1_alike_16 : decode cX1_alike 16 = .ok (.iconst 0, 1) := by decide +kernel
theorem dX1_alike_17 : decode cX1_alike 17 = .ok (.istore_n 3, 1) := by decide +kernel
theorem dX1_alike_18 : decode cX1_alike 18 = .ok (.iconst 0, 1) := by decide +kernel
theorem dX1_alike_19 : decode cX1_alike 19 = .ok (.istore 4, 2) := by decide +kernel
theorem dX1_alike_21 : decode cX1_alike 21 = .ok (.iconst 0, 1) := by decide +kernel
theorem dX1_alike_22 : decode cX1_alike 22 = .ok (.istore 5, 2) := by decide +kernel
theorem dX1_alike_24 : decode cX1_alike 24 = .ok (.iconst 0, 1) := by decide +kernel
theorem dX1_alike_25 : decode cX1_alike 25 = .ok (.istore 6, 2) := by decide +kernel
theorem dX1_alike_27 : decode cX1_alike 27 = .ok (.iload 6, 2) := by decide +kernel
theorem dX1_alike_29 : decode cX1_alike 29 = .ok (.sipush 2401, 3) := by decide +kernel
theorem dX1_alike_32 : decode cX1_alike 32 = .ok (.if_icmp .ge 91, 3) := by decide +kernel
theorem dX1_alike_35 : decode cX1_alike 35 = .ok (.aload_n 0, 1) := by decide +kernel
theorem dX1_alike_36 : decode cX1_alike 36 = .ok (.iload_n 1, 1) := by decide +kernel
theorem dX1_alike_37 : decode cX1_alike 37 = .ok (.iload 6, 2) := by decide +kernel
theorem dX1_alike_39 : decode cX1_alike 39 = .ok (.invokevirtual 84, 3) := by decide +kernel
theorem dX1_alike_42 : decode cX1_alike 42 = .ok (.istore 7, 2) := by decide +kernel
theorem dX1_alike_44 : decode cX1_alike 44 = .ok (.aload_n 0, 1) := by decide +kernel
theorem dX1_alike_45 : decode cX1_alike 45 = .ok (.iload_n 2, 1) := by decide +kernel
theorem dX1_alike_46 : decode cX1_alike 46 = .ok (.iload 6, 2) := by decide +kernel
theorem dX1_alike_48 : decode cX1_alike 48 = .ok (.invokevirtual 84, 3) := by decide +kernel
theorem dX1_alike_51 : decode cX1_alike 51 = .ok (.istore 8, 2) := by decide +kernel
theorem dX1_alike_53 : decode cX1_alike 53 = .ok (.iload_n 3, 1) := by decide +kernel
theorem dX1_alike_54 : decode cX1_alike 54 = .ok (.ifCond .ne 13, 3) := by decide +kernel
theorem dX1_alike_57 : decode cX1_alike 57 = .ok (.iload 7, 2) := by decide +kernel
theorem dX1_alike_59 : decode cX1_alike 59 = .ok (.ifCond .eq 12, 3) := by decide +kernel
theorem dX1_alike_62 : decode cX1_alike 62 = .ok (.iload 8, 2) := by decide +kernel
theorem dX1_alike_64 : decode cX1_alike 64 = .ok (.ifCond .ne 7, 3) := by decide +kernel
theorem dX1_alike_67 : decode cX1_alike 67 = .ok (.iconst 1, 1) := by decide +kernel
theorem dX1_alike_68 : decode cX1_alike 68 = .ok (.goto 4, 3) := by decide +kernel
theorem dX1_alike_71 : decode cX1_alike 71 = .ok (.iconst 0, 1) := by decide +kernel
theorem dX1_alike_72 : decode cX1_alike 72 = .ok (.istore_n 3, 1) := by decide +kernel
theorem dX1_alike_73 : decode cX1_alike 73 = .ok (.iload 4, 2) := by decide +kernel
theorem dX1_alike_75 : decode cX1_alike 75 = .ok (.ifCond .ne 13, 3) := by decide +kernel
theorem dX1_alike_78 : decode cX1_alike 78 = .ok (.iload 8, 2) := by decide +kernel
theorem dX1_alike_80 : decode cX1_alike 80 = .ok (.ifCond .eq 12, 3) := by decide +kernel
theorem dX1_alike_83 : decode cX1_alike 83 = .ok (.iload 7, 2) := by decide +kernel
theorem dX1_alike_85 : decode cX1_alike 85 = .ok (.ifCond .ne 7, 3) := by decide +kernel
theorem dX1_alike_88 : decode cX1_alike 88 = .ok (.iconst 1, 1) := by decide +kernel
theorem dX1_alike_89 : decode cX1_alike 89 = .ok (.goto 4, 3) := by decide +kernel
theorem dX1_alike_92 : decode cX1_alike 92 = .ok (.iconst 0, 1) := by decide +kernel
theorem dX1_alike_93 : decode cX1_alike 93 = .ok (.istore 4, 2) := by decide +kernel
theorem dX1_alike_95 : decode cX1_alike 95 = .ok (.iload 5, 2) := by decide +kernel
theorem dX1_alike_97 : decode cX1_alike 97 = .ok (.ifCond .ne 13, 3) := by decide +kernel
theorem dX1_alike_100 : decode cX1_alike 100 = .ok (.iload 7, 2) := by decide +kernel
theorem dX1_alike_102 : decode cX1_alike 102 = .ok (.ifCond .eq 12, 3) := by decide +kernel
theorem dX1_alike_105 : decode cX1_alike 105 = .ok (.iload 8, 2) := by decide +kernel
theorem dX1_alike_107 : decode cX1_alike 107 = .ok (.ifCond .eq 7, 3) := by decide +kernel
theorem dX1_alike_110 : decode cX1_alike 110 = .ok (.iconst 1, 1) := by decide +kernel
theorem dX1_alike_111 : decode cX1_alike 111 = .ok (.goto 4, 3) := by decide +kernel
theorem dX1_alike_114 : decode cX1_alike 114 = .ok (.iconst 0, 1) := by decide +kernel
theorem dX1_alike_115 : decode cX1_alike 115 = .ok (.istore 5, 2) := by decide +kernel
theorem dX1_alike_117 : decode cX1_alike 117 = .ok (.iinc 6 1, 3) := by decide +kernel
theorem dX1_alike_120 : decode cX1_alike 120 = .ok (.goto (-93), 3) := by decide +kernel
theorem dX1_alike_123 : decode cX1_alike 123 = .ok (.iload_n 3, 1) := by decide +kernel
theorem dX1_alike_124 : decode cX1_alike 124 = .ok (.ifCond .ne 14, 3) := by decide +kernel
theorem dX1_alike_127 : decode cX1_alike 127 = .ok (.iload 4, 2) := by decide +kernel
theorem dX1_alike_129 : decode cX1_alike 129 = .ok (.ifCond .eq 7, 3) := by decide +kernel
theorem dX1_alike_132 : decode cX1_alike 132 = .ok (.iconst 1, 1) := by decide +kernel
theorem dX1_alike_133 : decode cX1_alike 133 = .ok (.goto 4, 3) := by decide +kernel
theorem dX1_alike_136 : decode cX1_alike 136 = .ok (.iconst 0, 1) := by decide +kernel
theorem dX1_alike_137 : decode cX1_alike 137 = .ok (.ireturn, 1) := by decide +kernel
theorem dX1_alike_138 : decode cX1_alike 138 = .ok (.iload 4, 2) := by decide +kernel
theorem dX1_alike_140 : decode cX1_alike 140 = .ok (.ifCond .ne 5, 3) := by decide +kernel
theorem dX1_alike_143 : decode cX1_alike 143 = .ok (.iconst 2, 1) := by decide +kernel
theorem dX1_alike_144 : decode cX1_alike 144 = .ok (.ireturn, 1) := by decide +kernel
theorem dX1_alike_145 : decode cX1_alike 145 = .ok (.iload 5, 2) := by decide +kernel
theorem dX1_alike_147 : decode cX1_alike 147 = .ok (.ifCond .eq 7, 3) := by decide +kernel
theorem dX1_alike_150 : decode cX1_alike 150 = .ok (.iconst 4, 1) := by decide +kernel
theorem dX1_alike_151 : decode cX1_alike 151 = .ok (.goto 4, 3) := by decide +kernel
theorem dX1_alike_154 : decode cX1_alike 154 = .ok (.iconst 3, 1) := by decide +kernel
theorem dX1_alike_155 : decode cX1_alike 155 = .ok (.ireturn, 1) := by decide +kernel
set_option maxRecDepth 20000 in
theorem ggX1_image_X1_within : GoodIn wsX1_image wsX1_within := goodIn_r _ [6] (by decide +kernel) (by decide +kernel)
set_option maxRecDepth 20000 in
theorem gX1_image_X1_within : GoodIn wsX1_image (va_wsS RX1 34 yX1_within wsX1_within) := goodIn_app (goodIn_of _ (by decide +kernel)) ggX1_image_X1_within
set_option maxRecDepth 20000 in
theorem ggX1_image_X1_imageShift : GoodIn wsX1_image wsX1_imageShift := goodIn_r _ [9] (by decide +kernel) (by decide +kernel)
set_option maxRecDepth 20000 in
theorem gX1_image_X1_imageShift : GoodIn wsX1_image (va_wsS RX1 135 yX1_imageShift wsX1_imageShift) := goodIn_app (goodIn_of _ (by decide +kernel)) ggX1_image_X1_imageShift
theorem dX1_image_0 : decode cX1_image 0 = .ok (.iload_n 1, 1) := by decide +kernel
theorem dX1_image_1 : decode cX1_image 1 = .ok (.iconst 0, 1) := by decide +kernel
theorem dX1_image_2 : decode cX1_image 2 = .ok (.iconst 1, 1) := by decide +kernel
theorem dX1_image_3 : decode cX1_image 3 = .ok (.invokestatic 34, 3) := by decide +kernel
theorem dX1_image_6 : decode cX1_image 6 = .ok (.ifCond .ne 6, 3) := by decide +kernel
theorem dX1_image_9 : decode cX1_image 9 = .ok (.bipush (-2), 2) := by decide +kernel
theorem dX1_image_11 : decode cX1_image 11 = .ok (.ireturn, 1) := by decide +kernel
theorem dX1_image_12 : decode cX1_image 12 = .ok (.iload_n 1, 1) := by decide +kernel
theorem dX1_image_13 : decode cX1_image 13 = .ok (.invokestatic 135, 3) := by decide +kernel
theorem dX1_image_16 : decode cX1_image 16 = .ok (.istore_n 2, 1) := by decide +kernel
theorem dX1_image_17 : decode cX1_image 17 = .ok (.iconst 0, 1) := by decide +kernel
theorem dX1_image_18 : decode cX1_image 18 = .ok (.istore_n 3, 1) := by decide +kernel
theorem dX1_image_19 : decode cX1_image 19 = .ok (.iload_n 3, 1) := by decide +kernel
theorem dX1_image_20 : decode cX1_image 20 = .ok (.aload_n 0, 1) := by decide +kernel
theorem dX1_image_21 : decode cX1_image 21 = .ok (.getfield 16, 3) := by decide +kernel
theorem dX1_image_24 : decode cX1_image 24 = .ok (.arraylength, 1) := by decide +kernel
theorem dX1_image_25 : decode cX1_image 25 = .ok (.if_icmp .ge 44, 3) := by decide +kernel
theorem dX1_image_28 : decode cX1_image 28 = .ok (.aload_n 0, 1) := by decide +kernel
theorem dX1_image_29 : decode cX1_image 29 = .ok (.getfield 16, 3) := by decide +kernel
theorem dX1_image_32 : decode cX1_image 32 = .ok (.iload_n 3, 1) := by decide +kernel
theorem dX1_image_33 : decode cX1_image 33 = .ok (.iaload, 1) := by decide +kernel
theorem dX1_image_34 : decode cX1_image 34 = .ok (.bipush 15, 2) := by decide +kernel
theorem dX1_image_36 : decode cX1_image 36 = .ok (.iload_n 2, 1) := by decide +kernel
theorem dX1_image_37 : decode cX1_image 37 = .ok (.ishl, 1) := by decide +kernel
theorem dX1_image_38 : decode cX1_image 38 = .ok (.iconst (-1), 1) := by decide +kernel
theorem dX1_image_39 : decode cX1_image 39 = .ok (.ixor, 1) := by decide +kernel
theorem dX1_image_40 : decode cX1_image 40 = .ok (.iand, 1) := by decide +kernel
theorem dX1_image_41 : decode cX1_image 41 = .ok (.istore 4, 2) := by decide +kernel
theorem dX1_image_43 : decode cX1_image 43 = .ok (.aload_n 0, 1) := by decide +kernel
theorem dX1_image_44 : decode cX1_image 44 = .ok (.getfield 16, 3) := by decide +kernel
theorem dX1_image_47 : decode cX1_image 47 = .ok (.iload_n 3, 1) := by decide +kernel
theorem dX1_image_48 : decode cX1_image 48 = .ok (.iload 4, 2) := by decide +kernel
theorem dX1_image_50 : decode cX1_image 50 = .ok (.aload_n 0, 1) := by decide +kernel
theorem dX1_image_51 : decode cX1_image 51 = .ok (.getfield 16, 3) := by decide +kernel
theorem dX1_image_54 : decode cX1_image 54 = .ok (.iload_n 3, 1) := by decide +kernel
theorem dX1_image_55 : decode cX1_image 55 = .ok (.iaload, 1) := by decide +kernel
theorem dX1_image_56 : decode cX1_image 56 = .ok (.bipush 15, 2) := by decide +kernel
theorem dX1_image_58 : decode cX1_image 58 = .ok (.iand, 1) := by decide +kernel
theorem dX1_image_59 : decode cX1_image 59 = .ok (.iload_n 2, 1) := by decide +kernel
theorem dX1_image_60 : decode cX1_image 60 = .ok (.ishl, 1) := by decide +kernel
theorem dX1_image_61 : decode cX1_image 61 = .ok (.ior, 1) := by decide +kernel
theorem dX1_image_62 : decode cX1_image 62 = .ok (.iastore, 1) := by decide +kernel
theorem dX1_image_63 : decode cX1_image 63 = .ok (.iinc 3 1, 3) := by decide +kernel
theorem dX1_image_66 : decode cX1_image 66 = .ok (.goto (-47), 3) := by decide +kernel
theorem dX1_image_69 : decode cX1_image 69 = .ok (.aload_n 0, 1) := by decide +kernel
theorem dX1_image_70 : decode cX1_image 70 = .ok (.aload_n 0, 1) := by decide +kernel
theorem dX1_image_71 : decode cX1_image 71 = .ok (.getfield 20, 3) := by decide +kernel
theorem dX1_image_74 : decode cX1_image 74 = .ok (.iconst 1, 1) := by decide +kernel
theorem dX1_image_75 : decode cX1_image 75 = .ok (.iload_n 1, 1) := by decide +kernel
theorem dX1_image_76 : decode cX1_image 76 = .ok (.ishl, 1) := by decide +kernel
theorem dX1_image_77 : decode cX1_image 77 = .ok (.ior, 1) := by decide +kernel
theorem dX1_image_78 : decode cX1_image 78 = .ok (.putfield 20, 3) := by decide +kernel
theorem dX1_image_81 : decode cX1_image 81 = .ok (.iconst 1, 1) := by decide +kernel
theorem dX1_image_82 : decode cX1_image 82 = .ok (.ireturn, 1) := by decide +kernel
set_option maxRecDepth 20000 in
theorem ggX1_restore_X1_within : GoodIn wsX1_restore wsX1_within := goodIn_r _ [6] (by decide +kernel) (by decide +kernel)
set_option maxRecDepth 20000 in
theorem gX1_restore_X1_within : GoodIn wsX1_restore (va_wsS RX1 34 yX1_within wsX1_within) := goodIn_app (goodIn_of _ (by decide +kernel)) ggX1_restore_X1_within
set_option maxRecDepth 20000 in
theorem ggX1_restore_X1_imageShift : GoodIn wsX1_restore wsX1_imageShift := goodIn_r _ [9] (by decide +kernel) (by decide +kernel)
set_option maxRecDepth 20000 in
theorem gX1_restore_X1_imageShift : GoodIn wsX1_restore (va_wsS RX1 135 yX1_imageShift wsX1_imageShift) := goodIn_app (goodIn_of _ (by decide +kernel)) ggX1_restore_X1_imageShift
theorem dX1_restore_0 : decode cX1_restore 0 = .ok (.iload_n 1, 1) := by decide +kernel
theorem dX1_restore_1 : decode cX1_restore 1 = .ok (.iconst 0, 1) := by decide +kernel
theorem dX1_restore_2 : decode cX1_restore 2 = .ok (.iconst 1, 1) := by decide +kernel
theorem dX1_restore_3 : decode cX1_restore 3 = .ok (.invokestatic 34, 3) := by decide +kernel
theorem dX1_restore_6 : decode cX1_restore 6 = .ok (.ifCond .ne 6, 3) := by decide +kernel
theorem dX1_restore_9 : decode cX1_restore 9 = .ok (.bipush (-2), 2) := by decide +kernel
theorem dX1_restore_11 : decode cX1_restore 11 = .ok (.ireturn, 1) := by decide +kernel
theorem dX1_restore_12 : decode cX1_restore 12 = .ok (.aload_n 0, 1) := by decide +kernel
theorem dX1_restore_13 : decode cX1_restore 13 = .ok (.getfield 20, 3) := by decide +kernel
theorem dX1_restore_16 : decode cX1_restore 16 = .ok (.iload_n 1, 1) := by decide +kernel
theorem dX1_restore_17 : decode cX1_restore 17 = .ok (.ishr, 1) := by decide +kernel
theorem dX1_restore_18 : decode cX1_restore 18 = .ok (.iconst 1, 1) := by decide +kernel
theorem dX1_restore_19 : decode cX1_restore 19 = .ok (.iand, 1) := by decide +kernel
theorem dX1_restore_20 : decode cX1_restore 20 = .ok (.ifCond .ne 6, 3) := by decide +kernel
theorem dX1_restore_23 : decode cX1_restore 23 = .ok (.bipush (-3), 2) := by decide +kernel
theorem dX1_restore_25 : decode cX1_restore 25 = .ok (.ireturn, 1) := by decide +kernel
theorem dX1_restore_26 : decode cX1_restore 26 = .ok (.iload_n 1, 1) := by decide +kernel
theorem dX1_restore_27 : decode cX1_restore 27 = .ok (.invokestatic 135, 3) := by decide +kernel
theorem dX1_restore_30 : decode cX1_restore 30 = .ok (.istore_n 2, 1) := by decide +kernel
theorem dX1_restore_31 : decode cX1_restore 31 = .ok (.iconst 0, 1) := by decide +kernel
theorem dX1_restore_32 : decode cX1_restore 32 = .ok (.istore_n 3, 1) := by decide +kernel
theorem dX1_restore_33 : decode cX1_restore 33 = .ok (.iload_n 3, 1) := by decide +kernel
theorem dX1_restore_34 : decode cX1_restore 34 = .ok (.aload_n 0, 1) := by decide +kernel
theorem dX1_restore_35 : decode cX1_restore 35 = .ok (.getfield 16, 3) := by decide +kernel
theorem dX1_restore_38 : decode cX1_restore 38 = .ok (.arraylength, 1) := by decide +kernel
theorem dX1_restore_39 : decode cX1_restore 39 = .ok (.if_icmp .ge 36, 3) := by decide +kernel
theorem dX1_restore_42 : decode cX1_restore 42 = .ok (.aload_n 0, 1) := by decide +kernel
theorem dX1_restore_43 : decode cX1_restore 43 = .ok (.getfield 16, 3) := by decide +kernel
theorem dX1_restore_46 : decode cX1_restore 46 = .ok (.iload_n 3, 1) := by decide +kernel
theorem dX1_restore_47 : decode cX1_restore 47 = .ok (.aload_n 0, 1) := by decide +kernel
theorem dX1_restore_48 : decode cX1_restore 48 = .ok (.getfield 16, 3) := by decide +kernel
theorem dX1_restore_51 : decode cX1_restore 51 = .ok (.iload_n 3, 1) := by decide +kernel
theorem dX1_restore_52 : decode cX1_restore 52 = .ok (.iaload, 1) := by decide +kernel
theorem dX1_restore_53 : decode cX1_restore 53 = .ok (.bipush (-16), 2) := by decide +kernel
theorem dX1_restore_55 : decode cX1_restore 55 = .ok (.iand, 1) := by decide +kernel
theorem dX1_restore_56 : decode cX1_restore 56 = .ok (.aload_n 0, 1) := by decide +kernel
theorem dX1_restore_57 : decode cX1_restore 57 = .ok (.getfield 16, 3) := by decide +kernel
theorem dX1_restore_60 : decode cX1_restore 60 = .ok (.iload_n 3, 1) := by decide +kernel
theorem dX1_restore_61 : decode cX1_restore 61 = .ok (.iaload, 1) := by decide +kernel
theorem dX1_restore_62 : decode cX1_restore 62 = .ok (.iload_n 2, 1) := by decide +kernel
theorem dX1_restore_63 : decode cX1_restore 63 = .ok (.ishr, 1) := by decide +kernel
theorem dX1_restore_64 : decode cX1_restore 64 = .ok (.bipush 15, 2) := by decide +kernel
theorem dX1_restore_66 : decode cX1_restore 66 = .ok (.iand, 1) := by decide +kernel
theorem dX1_restore_67 : decode cX1_restore 67 = .ok (.ior, 1) := by decide +kernel
theorem dX1_restore_68 : decode cX1_restore 68 = .ok (.iastore, 1) := by decide +kernel
theorem dX1_restore_69 : decode cX1_restore 69 = .ok (.iinc 3 1, 3) := by decide +kernel
theorem dX1_restore_72 : decode cX1_restore 72 = .ok (.goto (-39), 3) := by decide +kernel
theorem dX1_restore_75 : decode cX1_restore 75 = .ok (.iconst 1, 1) := by decide +kernel
theorem dX1_restore_76 : decode cX1_restore 76 = .ok (.ireturn, 1) := by decide +kernel
set_option maxRecDepth 20000 in
theorem ggX1_count_X1_countHeldByAny : GoodIn wsX1_count wsX1_countHeldByAny := goodIn_r _ [6, 7, 34, 35, 36, 37, 38] (by decide +kernel) (by decide +kernel)
set_option maxRecDepth 20000 in
theorem gX1_count_X1_countHeldByAny : GoodIn wsX1_count (wsV RX1 138 RX1 yX1_countHeldByAny wsX1_countHeldByAny) := goodIn_app (goodIn_of _ (by decide +kernel)) ggX1_count_X1_countHeldByAny
set_option maxRecDepth 20000 in
theorem ggX1_count_X1_countPackedOfAll : GoodIn wsX1_count wsX1_countPackedOfAll := goodIn_r _ [11, 12, 13, 14, 5, 15, 16, 17, 18, 19, 7, 20, 21, 22, 23, 24, 25, 26, 27, 28, 29, 30, 31, 32, 33, 34, 35, 36, 37, 38] (by decide +kernel) (by decide +kernel)
set_option maxRecDepth 20000 in
theorem gX1_count_X1_countPackedOfAll : GoodIn wsX1_count (wsV RX1 142 RX1 yX1_countPackedOfAll wsX1_countPackedOfAll) := goodIn_app (goodIn_of _ (by decide +kernel)) ggX1_count_X1_countPackedOfAll
theorem dX1_count_0 : decode cX1_count 0 = .ok (.iload_n 1, 1) := by decide +kernel
theorem dX1_count_1 : decode cX1_count 1 = .ok (.tableswitch 42 0 2 #[27, 32, 37], 27) := by decide +kernel
theorem dX1_count_28 : decode cX1_count 28 = .ok (.aload_n 0, 1) := by decide +kernel
theorem dX1_count_29 : decode cX1_count 29 = .ok (.invokevirtual 138, 3) := by decide +kernel
theorem dX1_count_32 : decode cX1_count 32 = .ok (.ireturn, 1) := by decide +kernel
theorem dX1_count_33 : decode cX1_count 33 = .ok (.aload_n 0, 1) := by decide +kernel
theorem dX1_count_34 : decode cX1_count 34 = .ok (.invokevirtual 142, 3) := by decide +kernel
theorem dX1_count_37 : decode cX1_count 37 = .ok (.ireturn, 1) := by decide +kernel
theorem dX1_count_38 : decode cX1_count 38 = .ok (.aload_n 0, 1) := by decide +kernel
theorem dX1_count_39 : decode cX1_count 39 = .ok (.getfield 20, 3) := by decide +kernel
theorem dX1_count_42 : decode cX1_count 42 = .ok (.ireturn, 1) := by decide +kernel
theorem dX1_count_43 : decode cX1_count 43 = .ok (.bipush (-2), 2) := by decide +kernel
theorem dX1_count_45 : decode cX1_count 45 = .ok (.ireturn, 1) := by decide +kernel
theorem dX1_within_0 : decode cX1_within 0 = .ok (.iload_n 1, 1) := by decide +kernel
theorem dX1_within_1 : decode cX1_within 1 = .ok (.iload_n 0, 1) := by decide +kernel
theorem dX1_within_2 : decode cX1_within 2 = .ok (.if_icmp .gt 12, 3) := by decide +kernel
theorem dX1_within_5 : decode cX1_within 5 = .ok (.iload_n 0, 1) := by decide +kernel
theorem dX1_within_6 : decode cX1_within 6 = .ok (.iload_n 2, 1) := by decide +kernel
theorem dX1_within_7 : decode cX1_within 7 = .ok (.if_icmp .gt 7, 3) := by decide +kernel
theorem dX1_within_10 : decode cX1_within 10 = .ok (.iconst 1, 1) := by decide +kernel
theorem dX1_within_11 : decode cX1_within 11 = .ok (.goto 4, 3) := by decide +kernel
theorem dX1_within_14 : decode cX1_within 14 = .ok (.iconst 0, 1) := by decide +kernel
theorem dX1_within_15 : decode cX1_within 15 = .ok (.ireturn, 1) := by decide +kernel
set_option maxRecDepth 20000 in
theorem ggX1_isKey_X1_within : GoodIn wsX1_isKey wsX1_within := goodIn_r _ [4] (by decide +kernel) (by decide +kernel)
set_option maxRecDepth 20000 in
theorem gX1_isKey_X1_within : GoodIn wsX1_isKey (va_wsS RX1 34 yX1_within wsX1_within) := goodIn_app (goodIn_of _ (by decide +kernel)) ggX1_isKey_X1_within
theorem dX1_isKey_0 : decode cX1_isKey 0 = .ok (.iload_n 0, 1) := by decide +kernel
theorem dX1_isKey_1 : decode cX1_isKey 1 = .ok (.iconst 0, 1) := by decide +kernel
theorem dX1_isKey_2 : decode cX1_isKey 2 = .ok (.sipush 2400, 3) := by decide +kernel
theorem dX1_isKey_5 : decode cX1_isKey 5 = .ok (.invokestatic 34, 3) := by decide +kernel
theorem dX1_isKey_8 : decode cX1_isKey 8 = .ok (.ireturn, 1) := by decide +kernel
set_option maxRecDepth 20000 in
theorem ggX1_isLevel_X1_within : GoodIn wsX1_isLevel wsX1_within := goodIn_r _ [4] (by decide +kernel) (by decide +kernel)
set_option maxRecDepth 20000 in
theorem gX1_isLevel_X1_within : GoodIn wsX1_isLevel (va_wsS RX1 34 yX1_within wsX1_within) := goodIn_app (goodIn_of _ (by decide +kernel)) ggX1_isLevel_X1_within
theorem dX1_isLevel_0 : decode cX1_isLevel 0 = .ok (.iload_n 0, 1) := by decide +kernel
theorem dX1_isLevel_1 : decode cX1_isLevel 1 = .ok (.iconst 0, 1) := by decide +kernel
theorem dX1_isLevel_2 : decode cX1_isLevel 2 = .ok (.iconst 4, 1) := by decide +kernel
theorem dX1_isLevel_3 : decode cX1_isLevel 3 = .ok (.invokestatic 34, 3) := by decide +kernel
theorem dX1_isLevel_6 : decode cX1_isLevel 6 = .ok (.ireturn, 1) := by decide +kernel
set_option maxRecDepth 20000 in
theorem ggX1_isSlot_X1_within : GoodIn wsX1_isSlot wsX1_within := goodIn_r _ [4] (by decide +kernel) (by decide +kernel)
set_option maxRecDepth 20000 in
theorem gX1_isSlot_X1_within : GoodIn wsX1_isSlot (va_wsS RX1 34 yX1_within wsX1_within) := goodIn_app (goodIn_of _ (by decide +kernel)) ggX1_isSlot_X1_within
theorem dX1_isSlot_0 : decode cX1_isSlot 0 = .ok (.iload_n 0, 1) := by decide +kernel
theorem dX1_isSlot_1 : decode cX1_isSlot 1 = .ok (.iconst 0, 1) := by decide +kernel
theorem dX1_isSlot_2 : decode cX1_isSlot 2 = .ok (.iconst 3, 1) := by decide +kernel
theorem dX1_isSlot_3 : decode cX1_isSlot 3 = .ok (.invokestatic 34, 3) := by decide +kernel
theorem dX1_isSlot_6 : decode cX1_isSlot 6 = .ok (.ireturn, 1) := by decide +kernel
theorem dX1_valueAt_0 : decode cX1_valueAt 0 = .ok (.iconst 0, 1) := by decide +kernel
theorem dX1_valueAt_1 : decode cX1_valueAt 1 = .ok (.iload_n 1, 1) := by decide +kernel
theorem dX1_valueAt_2 : decode cX1_valueAt 2 = .ok (.if_icmp .gt 15, 3) := by decide +kernel
theorem dX1_valueAt_5 : decode cX1_valueAt 5 = .ok (.iload_n 1, 1) := by decide +kernel
theorem dX1_valueAt_6 : decode cX1_valueAt 6 = .ok (.aload_n 0, 1) := by decide +kernel
theorem dX1_valueAt_7 : decode cX1_valueAt 7 = .ok (.arraylength, 1) := by decide +kernel
theorem dX1_valueAt_8 : decode cX1_valueAt 8 = .ok (.if_icmp .ge 9, 3) := by decide +kernel
theorem dX1_valueAt_11 : decode cX1_valueAt 11 = .ok (.aload_n 0, 1) := by decide +kernel
theorem dX1_valueAt_12 : decode cX1_valueAt 12 = .ok (.iload_n 1, 1) := by decide +kernel
theorem dX1_valueAt_13 : decode cX1_valueAt 13 = .ok (.iaload, 1) := by decide +kernel
theorem dX1_valueAt_14 : decode cX1_valueAt 14 = .ok (.goto 5, 3) := by decide +kernel
theorem dX1_valueAt_17 : decode cX1_valueAt 17 = .ok (.bipush (-6), 2) := by decide +kernel
theorem dX1_valueAt_19 : decode cX1_valueAt 19 = .ok (.ireturn, 1) := by decide +kernel
theorem dX1_patchSize_0 : decode cX1_patchSize 0 = .ok (.iconst 1, 1) := by decide +kernel
theorem dX1_patchSize_1 : decode cX1_patchSize 1 = .ok (.istore_n 1, 1) := by decide +kernel
theorem dX1_patchSize_2 : decode cX1_patchSize 2 = .ok (.iconst 0, 1) := by decide +kernel
theorem dX1_patchSize_3 : decode cX1_patchSize 3 = .ok (.istore_n 2, 1) := by decide +kernel
theorem dX1_patchSize_4 : decode cX1_patchSize 4 = .ok (.iload_n 2, 1) := by decide +kernel
theorem dX1_patchSize_5 : decode cX1_patchSize 5 = .ok (.iload_n 0, 1) := by decide +kernel
theorem dX1_patchSize_6 : decode cX1_patchSize 6 = .ok (.if_icmp .ge 14, 3) := by decide +kernel
theorem dX1_patchSize_9 : decode cX1_patchSize 9 = .ok (.iload_n 1, 1) := by decide +kernel
theorem dX1_patchSize_10 : decode cX1_patchSize 10 = .ok (.bipush 7, 2) := by decide +kernel
theorem dX1_patchSize_12 : decode cX1_patchSize 12 = .ok (.imul, 1) := by decide +kernel
theorem dX1_patchSize_13 : decode cX1_patchSize 13 = .ok (.istore_n 1, 1) := by decide +kernel
theorem dX1_patchSize_14 : decode cX1_patchSize 14 = .ok (.iinc 2 1, 3) := by decide +kernel
theorem dX1_patchSize_17 : decode cX1_patchSize 17 = .ok (.goto (-13), 3) := by decide +kernel
theorem dX1_patchSize_20 : decode cX1_patchSize 20 = .ok (.iload_n 1, 1) := by decide +kernel
theorem dX1_patchSize_21 : decode cX1_patchSize 21 = .ok (.ireturn, 1) := by decide +kernel
set_option maxRecDepth 20000 in
theorem ggX1_patchOf_X1_patchSize : GoodIn wsX1_patchOf wsX1_patchSize := goodIn_r _ [4] (by decide +kernel) (by decide +kernel)
set_option maxRecDepth 20000 in
theorem gX1_patchOf_X1_patchSize : GoodIn wsX1_patchOf (va_wsS RX1 67 yX1_patchSize wsX1_patchSize) := goodIn_app (goodIn_of _ (by decide +kernel)) ggX1_patchOf_X1_patchSize
theorem dX1_patchOf_0 : decode cX1_patchOf 0 = .ok (.iload_n 0, 1) := by decide +kernel
theorem dX1_patchOf_1 : decode cX1_patchOf 1 = .ok (.istore_n 2, 1) := by decide +kernel
theorem dX1_patchOf_2 : decode cX1_patchOf 2 = .ok (.iconst 0, 1) := by decide +kernel
theorem dX1_patchOf_3 : decode cX1_patchOf 3 = .ok (.istore_n 3, 1) := by decide +kernel
theorem dX1_patchOf_4 : decode cX1_patchOf 4 = .ok (.iload_n 3, 1) := by decide +kernel
theorem dX1_patchOf_5 : decode cX1_patchOf 5 = .ok (.iload_n 1, 1) := by decide +kernel
theorem dX1_patchOf_6 : decode cX1_patchOf 6 = .ok (.if_icmp .ge 14, 3) := by decide +kernel
theorem dX1_patchOf_9 : decode cX1_patchOf 9 = .ok (.iload_n 2, 1) := by decide +kernel
theorem dX1_patchOf_10 : decode cX1_patchOf 10 = .ok (.bipush 7, 2) := by decide +kernel
theorem dX1_patchOf_12 : decode cX1_patchOf 12 = .ok (.idiv, 1) := by decide +kernel
theorem dX1_patchOf_13 : decode cX1_patchOf 13 = .ok (.istore_n 2, 1) := by decide +kernel
theorem dX1_patchOf_14 : decode cX1_patchOf 14 = .ok (.iinc 3 1, 3) := by decide +kernel
theorem dX1_patchOf_17 : decode cX1_patchOf 17 = .ok (.goto (-13), 3) := by decide +kernel
theorem dX1_patchOf_20 : decode cX1_patchOf 20 = .ok (.iload_n 2, 1) := by decide +kernel
theorem dX1_patchOf_21 : decode cX1_patchOf 21 = .ok (.iload_n 1, 1) := by decide +kernel
theorem dX1_patchOf_22 : decode cX1_patchOf 22 = .ok (.invokestatic 67, 3) := by decide +kernel
theorem dX1_patchOf_25 : decode cX1_patchOf 25 = .ok (.imul, 1) := by decide +kernel
theorem dX1_patchOf_26 : decode cX1_patchOf 26 = .ok (.ireturn, 1) := by decide +kernel
set_option maxRecDepth 20000 in
theorem ggX1_markPatchesNextTo_X0_neighbour : GoodIn wsX1_markPatchesNextTo wsX0_neighbour := goodIn_r _ [6, 7, 8, 9, 10, 11, 12, 34, 35] (by decide +kernel) (by decide +kernel)
set_option maxRecDepth 20000 in
theorem gX1_markPatchesNextTo_X0_neighbour : GoodIn wsX1_markPatchesNextTo (wsV RX1 49 RX0 yX0_neighbour wsX0_neighbour) := goodIn_app (goodIn_of _ (by decide +kernel)) ggX1_markPatchesNextTo_X0_neighbour
set_option maxRecDepth 20000 in
theorem ggX1_markPatchesNextTo_X1_patchOf : GoodIn wsX1_markPatchesNextTo wsX1_patchOf := goodIn_r _ [15, 16, 17, 11, 18] (by decide +kernel) (by decide +kernel)
set_option maxRecDepth 20000 in
theorem gX1_markPatchesNextTo_X1_patchOf : GoodIn wsX1_markPatchesNextTo (va_wsS RX1 58 yX1_patchOf wsX1_patchOf) := goodIn_app (goodIn_of _ (by decide +kernel)) ggX1_markPatchesNextTo_X1_patchOf
set_option maxRecDepth 20000 in
theorem ggX1_markPatchesNextTo_X1_isMarked : GoodIn wsX1_markPatchesNextTo wsX1_isMarked := goodIn_r _ [22, 23, 24, 10, 11, 12, 29, 30, 31, 32, 33] (by decide +kernel) (by decide +kernel)
set_option maxRecDepth 20000 in
theorem gX1_markPatchesNextTo_X1_isMarked : GoodIn wsX1_markPatchesNextTo (wsV RX1 128 RX1 yX1_isMarked wsX1_isMarked) := goodIn_app (goodIn_of _ (by decide +kernel)) ggX1_markPatchesNextTo_X1_isMarked
set_option maxRecDepth 20000 in
theorem ggX1_markPatchesNextTo_X1_mark : GoodIn wsX1_markPatchesNextTo wsX1_mark := goodIn_r _ [28, 23, 29, 30, 31, 32, 33] (by decide +kernel) (by decide +kernel)
set_option maxRecDepth 20000 in
theorem gX1_markPatchesNextTo_X1_mark : GoodIn wsX1_markPatchesNextTo (wsV RX1 145 RX1 yX1_mark wsX1_mark) := goodIn_app (goodIn_of _ (by decide +kernel)) ggX1_markPatchesNextTo_X1_mark
theorem dX1_markPatchesNextTo_0 : decode cX1_markPatchesNextTo 0 = .ok (.iconst 0, 1) := by decide +kernel
theorem dX1_markPatchesNextTo_1 : decode cX1_markPatchesNextTo 1 = .ok (.istore 4, 2) := by decide +kernel
theorem dX1_markPatchesNextTo_3 : decode cX1_markPatchesNextTo 3 = .ok (.iconst 1, 1) := by decide +kernel
theorem dX1_markPatchesNextTo_4 : decode cX1_markPatchesNextTo 4 = .ok (.istore 5, 2) := by decide +kernel
theorem dX1_markPatchesNextTo_6 : decode cX1_markPatchesNextTo 6 = .ok (.iload 5, 2) := by decide +kernel
theorem dX1_markPatchesNextTo_8 : decode cX1_markPatchesNextTo 8 = .ok (.bipush 6, 2) := by decide +kernel
theorem dX1_markPatchesNextTo_10 : decode cX1_markPatchesNextTo 10 = .ok (.if_icmp .gt 65, 3) := by decide +kernel
theorem dX1_markPatchesNextTo_13 : decode cX1_markPatchesNextTo 13 = .ok (.aload_n 0, 1) := by decide +kernel
theorem dX1_markPatchesNextTo_14 : decode cX1_markPatchesNextTo 14 = .ok (.getfield 10, 3) := by decide +kernel
theorem dX1_markPatchesNextTo_17 : decode cX1_markPatchesNextTo 17 = .ok (.iload_n 1, 1) := by decide +kernel
theorem dX1_markPatchesNextTo_18 : decode cX1_markPatchesNextTo 18 = .ok (.iload 5, 2) := by decide +kernel
theorem dX1_markPatchesNextTo_20 : decode cX1_markPatchesNextTo 20 = .ok (.invokevirtual 49, 3) := by decide +kernel
theorem dX1_markPatchesNextTo_23 : decode cX1_markPatchesNextTo 23 = .ok (.istore 6, 2) := by decide +kernel
theorem dX1_markPatchesNextTo_25 : decode cX1_markPatchesNextTo 25 = .ok (.iload 6, 2) := by decide +kernel
theorem dX1_markPatchesNextTo_27 : decode cX1_markPatchesNextTo 27 = .ok (.bipush (-6), 2) := by decide +kernel
theorem dX1_markPatchesNextTo_29 : decode cX1_markPatchesNextTo 29 = .ok (.if_icmp .ne 7, 3) := by decide +kernel
theorem dX1_markPatchesNextTo_32 : decode cX1_markPatchesNextTo 32 = .ok (.iload_n 2, 1) := by decide +kernel
theorem dX1_markPatchesNextTo_33 : decode cX1_markPatchesNextTo 33 = .ok (.goto 9, 3) := by decide +kernel
theorem dX1_markPatchesNextTo_36 : decode cX1_markPatchesNextTo 36 = .ok (.iload 6, 2) := by decide +kernel
theorem dX1_markPatchesNextTo_38 : decode cX1_markPatchesNextTo 38 = .ok (.iload_n 3, 1) := by decide +kernel
theorem dX1_markPatchesNextTo_39 : decode cX1_markPatchesNextTo 39 = .ok (.invokestatic 58, 3) := by decide +kernel
theorem dX1_markPatchesNextTo_42 : decode cX1_markPatchesNextTo 42 = .ok (.istore 7, 2) := by decide +kernel
theorem dX1_markPatchesNextTo_44 : decode cX1_markPatchesNextTo 44 = .ok (.iload 7, 2) := by decide +kernel
theorem dX1_markPatchesNextTo_46 : decode cX1_markPatchesNextTo 46 = .ok (.iload_n 2, 1) := by decide +kernel
theorem dX1_markPatchesNextTo_47 : decode cX1_markPatchesNextTo 47 = .ok (.if_icmp .eq 22, 3) := by decide +kernel
theorem dX1_markPatchesNextTo_50 : decode cX1_markPatchesNextTo 50 = .ok (.aload_n 0, 1) := by decide +kernel
theorem dX1_markPatchesNextTo_51 : decode cX1_markPatchesNextTo 51 = .ok (.iload 7, 2) := by decide +kernel
theorem dX1_markPatchesNextTo_53 : decode cX1_markPatchesNextTo 53 = .ok (.invokevirtual 128, 3) := by decide +kernel
theorem dX1_markPatchesNextTo_56 : decode cX1_markPatchesNextTo 56 = .ok (.ifCond .ne 13, 3) := by decide +kernel
theorem dX1_markPatchesNextTo_59 : decode cX1_markPatchesNextTo 59 = .ok (.aload_n 0, 1) := by decide +kernel
theorem dX1_markPatchesNextTo_60 : decode cX1_markPatchesNextTo 60 = .ok (.iload 7, 2) := by decide +kernel
theorem dX1_markPatchesNextTo_62 : decode cX1_markPatchesNextTo 62 = .ok (.iconst 1, 1) := by decide +kernel
theorem dX1_markPatchesNextTo_63 : decode cX1_markPatchesNextTo 63 = .ok (.invokevirtual 145, 3) := by decide +kernel
theorem dX1_markPatchesNextTo_66 : decode cX1_markPatchesNextTo 66 = .ok (.iinc 4 1, 3) := by decide +kernel
theorem dX1_markPatchesNextTo_69 : decode cX1_markPatchesNextTo 69 = .ok (.iinc 5 1, 3) := by decide +kernel
theorem dX1_markPatchesNextTo_72 : decode cX1_markPatchesNextTo 72 = .ok (.goto (-66), 3) := by decide +kernel
theorem dX1_markPatchesNextTo_75 : decode cX1_markPatchesNextTo 75 = .ok (.iload 4, 2) := by decide +kernel
theorem dX1_markPatchesNextTo_77 : decode cX1_markPatchesNextTo 77 = .ok (.ireturn, 1) := by decide +kernel
theorem dX1_holds_0 : decode cX1_holds 0 = .ok (.iconst 0, 1) := by decide +kernel
theorem dX1_holds_1 : decode cX1_holds 1 = .ok (.iload_n 2, 1) := by decide +kernel
theorem dX1_holds_2 : decode cX1_holds 2 = .ok (.if_icmp .gt 30, 3) := by decide +kernel
theorem dX1_holds_5 : decode cX1_holds 5 = .ok (.iload_n 2, 1) := by decide +kernel
theorem dX1_holds_6 : decode cX1_holds 6 = .ok (.aload_n 0, 1) := by decide +kernel
theorem dX1_holds_7 : decode cX1_holds 7 = .ok (.getfield 16, 3) := by decide +kernel
theorem dX1_holds_10 : decode cX1_holds 10 = .ok (.arraylength, 1) := by decide +kernel
theorem dX1_holds_11 : decode cX1_holds 11 = .ok (.if_icmp .ge 21, 3) := by decide +kernel
theorem dX1_holds_14 : decode cX1_holds 14 = .ok (.aload_n 0, 1) := by decide +kernel
theorem dX1_holds_15 : decode cX1_holds 15 = .ok (.getfield 16, 3) := by decide +kernel
theorem dX1_holds_18 : decode cX1_holds 18 = .ok (.iload_n 2, 1) := by decide +kernel
theorem dX1_holds_19 : decode cX1_holds 19 = .ok (.iaload, 1) := by decide +kernel
theorem dX1_holds_20 : decode cX1_holds 20 = .ok (.iload_n 1, 1) := by decide +kernel
theorem dX1_holds_21 : decode cX1_holds 21 = .ok (.ishr, 1) := by decide +kernel
theorem dX1_holds_22 : decode cX1_holds 22 = .ok (.iconst 1, 1) := by decide +kernel
theorem dX1_holds_23 : decode cX1_holds 23 = .ok (.iand, 1) := by decide +kernel
theorem dX1_holds_24 : decode cX1_holds 24 = .ok (.iconst 1, 1) := by decide +kernel
theorem dX1_holds_25 : decode cX1_holds 25 = .ok (.if_icmp .ne 7, 3) := by decide +kernel
theorem dX1_holds_28 : decode cX1_holds 28 = .ok (.iconst 1, 1) := by decide +kernel
theorem dX1_holds_29 : decode cX1_holds 29 = .ok (.goto 4, 3) := by decide +kernel
theorem dX1_holds_32 : decode cX1_holds 32 = .ok (.iconst 0, 1) := by decide +kernel
theorem dX1_holds_33 : decode cX1_holds 33 = .ok (.ireturn, 1) := by decide +kernel
theorem dX1_place_0 : decode cX1_place 0 = .ok (.iconst 0, 1) := by decide +kernel
theorem dX1_place_1 : decode cX1_place 1 = .ok (.iload_n 2, 1) := by decide +kernel
theorem dX1_place_2 : decode cX1_place 2 = .ok (.if_icmp .gt 47, 3) := by decide +kernel
theorem dX1_place_5 : decode cX1_place 5 = .ok (.iload_n 2, 1) := by decide +kernel
theorem dX1_place_6 : decode cX1_place 6 = .ok (.aload_n 0, 1) := by decide +kernel
theorem dX1_place_7 : decode cX1_place 7 = .ok (.getfield 16, 3) := by decide +kernel
theorem dX1_place_10 : decode cX1_place 10 = .ok (.arraylength, 1) := by decide +kernel
theorem dX1_place_11 : decode cX1_place 11 = .ok (.if_icmp .ge 38, 3) := by decide +kernel
theorem dX1_place_14 : decode cX1_place 14 = .ok (.aload_n 0, 1) := by decide +kernel
theorem dX1_place_15 : decode cX1_place 15 = .ok (.getfield 16, 3) := by decide +kernel
theorem dX1_place_18 : decode cX1_place 18 = .ok (.iload_n 2, 1) := by decide +kernel
theorem dX1_place_19 : decode cX1_place 19 = .ok (.iaload, 1) := by decide +kernel
theorem dX1_place_20 : decode cX1_place 20 = .ok (.iconst 1, 1) := by decide +kernel
theorem dX1_place_21 : decode cX1_place 21 = .ok (.iload_n 1, 1) := by decide +kernel
theorem dX1_place_22 : decode cX1_place 22 = .ok (.ishl, 1) := by decide +kernel
theorem dX1_place_23 : decode cX1_place 23 = .ok (.iconst (-1), 1) := by decide +kernel
theorem dX1_place_24 : decode cX1_place 24 = .ok (.ixor, 1) := by decide +kernel
theorem dX1_place_25 : decode cX1_place 25 = .ok (.iand, 1) := by decide +kernel
theorem dX1_place_26 : decode cX1_place 26 = .ok (.istore 4, 2) := by decide +kernel
theorem dX1_place_28 : decode cX1_place 28 = .ok (.aload_n 0, 1) := by decide +kernel
theorem dX1_place_29 : decode cX1_place 29 = .ok (.getfield 16, 3) := by decide +kernel
theorem dX1_place_32 : decode cX1_place 32 = .ok (.iload_n 2, 1) := by decide +kernel
theorem dX1_place_33 : decode cX1_place 33 = .ok (.iload_n 3, 1) := by decide +kernel
theorem dX1_place_34 : decode cX1_place 34 = .ok (.ifCond .eq 12, 3) := by decide +kernel
theorem dX1_place_37 : decode cX1_place 37 = .ok (.iload 4, 2) := by decide +kernel
theorem dX1_place_39 : decode cX1_place 39 = .ok (.iconst 1, 1) := by decide +kernel
theorem dX1_place_40 : decode cX1_place 40 = .ok (.iload_n 1, 1) := by decide +kernel
theorem dX1_place_41 : decode cX1_place 41 = .ok (.ishl, 1) := by decide +kernel
theorem dX1_place_42 : decode cX1_place 42 = .ok (.ior, 1) := by decide +kernel
theorem dX1_place_43 : decode cX1_place 43 = .ok (.goto 5, 3) := by decide +kernel
theorem dX1_place_46 : decode cX1_place 46 = .ok (.iload 4, 2) := by decide +kernel
theorem dX1_place_48 : decode cX1_place 48 = .ok (.iastore, 1) := by decide +kernel
theorem dX1_place_49 : decode cX1_place 49 = .ok (.return_, 1) := by decide +kernel
set_option maxRecDepth 20000 in
theorem ggX1_sizeOf_X1_holds : GoodIn wsX1_sizeOf wsX1_holds := goodIn_r _ [5, 6, 7, 8, 9, 10, 11] (by decide +kernel) (by decide +kernel)
set_option maxRecDepth 20000 in
theorem gX1_sizeOf_X1_holds : GoodIn wsX1_sizeOf (wsV RX1 84 RX1 yX1_holds wsX1_holds) := goodIn_app (goodIn_of _ (by decide +kernel)) ggX1_sizeOf_X1_holds
theorem dX1_sizeOf_0 : decode cX1_sizeOf 0 = .ok (.iconst 0, 1) := by decide +kernel
theorem dX1_sizeOf_1 : decode cX1_sizeOf 1 = .ok (.istore_n 2, 1) := by decide +kernel
theorem dX1_sizeOf_2 : decode cX1_sizeOf 2 = .ok (.iconst 0, 1) := by decide +kernel
theorem dX1_sizeOf_3 : decode cX1_sizeOf 3 = .ok (.istore_n 3, 1) := by decide +kernel
theorem dX1_sizeOf_4 : decode cX1_sizeOf 4 = .ok (.iload_n 3, 1) := by decide +kernel
theorem dX1_sizeOf_5 : decode cX1_sizeOf 5 = .ok (.sipush 2401, 3) := by decide +kernel
theorem dX1_sizeOf_8 : decode cX1_sizeOf 8 = .ok (.if_icmp .ge 21, 3) := by decide +kernel
theorem dX1_sizeOf_11 : decode cX1_sizeOf 11 = .ok (.aload_n 0, 1) := by decide +kernel
theorem dX1_sizeOf_12 : decode cX1_sizeOf 12 = .ok (.iload_n 1, 1) := by decide +kernel
theorem dX1_sizeOf_13 : decode cX1_sizeOf 13 = .ok (.iload_n 3, 1) := by decide +kernel
theorem dX1_sizeOf_14 : decode cX1_sizeOf 14 = .ok (.invokevirtual 84, 3) := by decide +kernel
theorem dX1_sizeOf_17 : decode cX1_sizeOf 17 = .ok (.ifCond .eq 6, 3) := by decide +kernel
theorem dX1_sizeOf_20 : decode cX1_sizeOf 20 = .ok (.iinc 2 1, 3) := by decide +kernel
theorem dX1_sizeOf_23 : decode cX1_sizeOf 23 = .ok (.iinc 3 1, 3) := by decide +kernel
theorem dX1_sizeOf_26 : decode cX1_sizeOf 26 = .ok (.goto (-22), 3) := by decide +kernel
theorem dX1_sizeOf_29 : decode cX1_sizeOf 29 = .ok (.iload_n 2, 1) := by decide +kernel
theorem dX1_sizeOf_30 : decode cX1_sizeOf 30 = .ok (.ireturn, 1) := by decide +kernel
set_option maxRecDepth 20000 in
theorem ggX1_leastKey_X1_holds : GoodIn wsX1_leastKey wsX1_holds := goodIn_r _ [5, 6, 7, 8, 9, 10, 11] (by decide +kernel) (by decide +kernel)
set_option maxRecDepth 20000 in
theorem gX1_leastKey_X1_holds : GoodIn wsX1_leastKey (wsV RX1 84 RX1 yX1_holds wsX1_holds) := goodIn_app (goodIn_of _ (by decide +kernel)) ggX1_leastKey_X1_holds
theorem dX1_leastKey_0 : decode cX1_leastKey 0 = .ok (.iconst 0, 1) := by decide +kernel
theorem dX1_leastKey_1 : decode cX1_leastKey 1 = .ok (.istore_n 2, 1) := by decide +kernel
theorem dX1_leastKey_2 : decode cX1_leastKey 2 = .ok (.iload_n 2, 1) := by decide +kernel
theorem dX1_leastKey_3 : decode cX1_leastKey 3 = .ok (.sipush 2401, 3) := by decide +kernel
theorem dX1_leastKey_6 : decode cX1_leastKey 6 = .ok (.if_icmp .ge 20, 3) := by decide +kernel
theorem dX1_leastKey_9 : decode cX1_leastKey 9 = .ok (.aload_n 0, 1) := by decide +kernel
theorem dX1_leastKey_10 : decode cX1_leastKey 10 = .ok (.iload_n 1, 1) := by decide +kernel
theorem dX1_leastKey_11 : decode cX1_leastKey 11 = .ok (.iload_n 2, 1) := by decide +kernel
theorem dX1_leastKey_12 : decode cX1_leastKey 12 = .ok (.invokevirtual 84, 3) := by decide +kernel
theorem dX1_leastKey_15 : decode cX1_leastKey 15 = .ok (.ifCond .eq 5, 3) := by decide +kernel
theorem dX1_leastKey_18 : decode cX1_leastKey 18 = .ok (.iload_n 2, 1) := by decide +kernel
theorem dX1_leastKey_19 : decode cX1_leastKey 19 = .ok (.ireturn, 1) := by decide +kernel
theorem dX1_leastKey_20 : decode cX1_leastKey 20 = .ok (.iinc 2 1, 3) := by decide +kernel
theorem dX1_leastKey_23 : decode cX1_leastKey 23 = .ok (.goto (-21), 3) := by decide +kernel
theorem dX1_leastKey_26 : decode cX1_leastKey 26 = .ok (.bipush (-6), 2) := by decide +kernel
theorem dX1_leastKey_28 : decode cX1_leastKey 28 = .ok (.ireturn, 1) := by decide +kernel
set_option maxRecDepth 20000 in
theorem ggX1_greatestKey_X1_holds : GoodIn wsX1_greatestKey wsX1_holds := goodIn_r _ [5, 6, 7, 8, 9, 10, 11] (by decide +kernel) (by decide +kernel)
set_option maxRecDepth 20000 in
theorem gX1_greatestKey_X1_holds : GoodIn wsX1_greatestKey (wsV RX1 84 RX1 yX1_holds wsX1_holds) := goodIn_app (goodIn_of _ (by decide +kernel)) ggX1_greatestKey_X1_holds
theorem dX1_greatestKey_0 : decode cX1_greatestKey 0 = .ok (.sipush 2400, 3) := by decide +kernel
theorem dX1_greatestKey_3 : decode cX1_greatestKey 3 = .ok (.istore_n 2, 1) := by decide +kernel
theorem dX1_greatestKey_4 : decode cX1_greatestKey 4 = .ok (.iload_n 2, 1) := by decide +kernel
theorem dX1_greatestKey_5 : decode cX1_greatestKey 5 = .ok (.ifCond .lt 20, 3) := by decide +kernel
theorem dX1_greatestKey_8 : decode cX1_greatestKey 8 = .ok (.aload_n 0, 1) := by decide +kernel
theorem dX1_greatestKey_9 : decode cX1_greatestKey 9 = .ok (.iload_n 1, 1) := by decide +kernel
theorem dX1_greatestKey_10 : decode cX1_greatestKey 10 = .ok (.iload_n 2, 1) := by decide +kernel
theorem dX1_greatestKey_11 : decode cX1_greatestKey 11 = .ok (.invokevirtual 84, 3) := by decide +kernel
theorem dX1_greatestKey_14 : decode cX1_greatestKey 14 = .ok (.ifCond .eq 5, 3) := by decide +kernel
theorem dX1_greatestKey_17 : decode cX1_greatestKey 17 = .ok (.iload_n 2, 1) := by decide +kernel
theorem dX1_greatestKey_18 : decode cX1_greatestKey 18 = .ok (.ireturn, 1) := by decide +kernel
theorem dX1_greatestKey_19 : decode cX1_greatestKey 19 = .ok (.iinc 2 (-1), 3) := by decide +kernel
theorem dX1_greatestKey_22 : decode cX1_greatestKey 22 = .ok (.goto (-18), 3) := by decide +kernel
theorem dX1_greatestKey_25 : decode cX1_greatestKey 25 = .ok (.bipush (-6), 2) := by decide +kernel
theorem dX1_greatestKey_27 : decode cX1_greatestKey 27 = .ok (.ireturn, 1) := by decide +kernel
theorem dX1_countHeldByAny_0 : decode cX1_countHeldByAny 0 = .ok (.iconst 0, 1) := by decide +kernel
theorem dX1_countHeldByAny_1 : decode cX1_countHeldByAny 1 = .ok (.istore_n 1, 1) := by decide +kernel
theorem dX1_countHeldByAny_2 : decode cX1_countHeldByAny 2 = .ok (.iconst 0, 1) := by decide +kernel
theorem dX1_countHeldByAny_3 : decode cX1_countHeldByAny 3 = .ok (.istore_n 2, 1) := by decide +kernel
theorem dX1_countHeldByAny_4 : decode cX1_countHeldByAny 4 = .ok (.iload_n 2, 1) := by decide +kernel
theorem dX1_countHeldByAny_5 : decode cX1_countHeldByAny 5 = .ok (.aload_n 0, 1) := by decide +kernel
theorem dX1_countHeldByAny_6 : decode cX1_countHeldByAny 6 = .ok (.getfield 16, 3) := by decide +kernel
theorem dX1_countHeldByAny_9 : decode cX1_countHeldByAny 9 = .ok (.arraylength, 1) := by decide +kernel
theorem dX1_countHeldByAny_10 : decode cX1_countHeldByAny 10 = .ok (.if_icmp .ge 24, 3) := by decide +kernel
theorem dX1_countHeldByAny_13 : decode cX1_countHeldByAny 13 = .ok (.aload_n 0, 1) := by decide +kernel
theorem dX1_countHeldByAny_14 : decode cX1_countHeldByAny 14 = .ok (.getfield 16, 3) := by decide +kernel
theorem dX1_countHeldByAny_17 : decode cX1_countHeldByAny 17 = .ok (.iload_n 2, 1) := by decide +kernel
theorem dX1_countHeldByAny_18 : decode cX1_countHeldByAny 18 = .ok (.iaload, 1) := by decide +kernel
theorem dX1_countHeldByAny_19 : decode cX1_countHeldByAny 19 = .ok (.bipush 15, 2) := by decide +kernel
theorem dX1_countHeldByAny_21 : decode cX1_countHeldByAny 21 = .ok (.iand, 1) := by decide +kernel
theorem dX1_countHeldByAny_22 : decode cX1_countHeldByAny 22 = .ok (.ifCond .eq 6, 3) := by decide +kernel
theorem dX1_countHeldByAny_25 : decode cX1_countHeldByAny 25 = .ok (.iinc 1 1, 3) := by decide +kernel
theorem dX1_countHeldByAny_28 : decode cX1_countHeldByAny 28 = .ok (.iinc 2 1, 3) := by decide +kernel
theorem dX1_countHeldByAny_31 : decode cX1_countHeldByAny 31 = .ok (.goto (-27), 3) := by decide +kernel
theorem dX1_countHeldByAny_34 : decode cX1_countHeldByAny 34 = .ok (.iload_n 1, 1) := by decide +kernel
theorem dX1_countHeldByAny_35 : decode cX1_countHeldByAny 35 = .ok (.ireturn, 1) := by decide +kernel
theorem dX1_joined_0 : decode cX1_joined 0 = .ok (.iload_n 2, 1) := by decide +kernel
theorem dX1_joined_1 : decode cX1_joined 1 = .ok (.tableswitch 69 0 2 #[27, 41, 55], 27) := by decide +kernel
theorem dX1_joined_28 : decode cX1_joined 28 = .ok (.iload_n 0, 1) := by decide +kernel
theorem dX1_joined_29 : decode cX1_joined 29 = .ok (.ifCond .ne 7, 3) := by decide +kernel
theorem dX1_joined_32 : decode cX1_joined 32 = .ok (.iload_n 1, 1) := by decide +kernel
theorem dX1_joined_33 : decode cX1_joined 33 = .ok (.ifCond .eq 7, 3) := by decide +kernel
theorem dX1_joined_36 : decode cX1_joined 36 = .ok (.iconst 1, 1) := by decide +kernel
theorem dX1_joined_37 : decode cX1_joined 37 = .ok (.goto 4, 3) := by decide +kernel
theorem dX1_joined_40 : decode cX1_joined 40 = .ok (.iconst 0, 1) := by decide +kernel
theorem dX1_joined_41 : decode cX1_joined 41 = .ok (.ireturn, 1) := by decide +kernel
theorem dX1_joined_42 : decode cX1_joined 42 = .ok (.iload_n 0, 1) := by decide +kernel
theorem dX1_joined_43 : decode cX1_joined 43 = .ok (.ifCond .eq 11, 3) := by decide +kernel
theorem dX1_joined_46 : decode cX1_joined 46 = .ok (.iload_n 1, 1) := by decide +kernel
theorem dX1_joined_47 : decode cX1_joined 47 = .ok (.ifCond .eq 7, 3) := by decide +kernel
theorem dX1_joined_50 : decode cX1_joined 50 = .ok (.iconst 1, 1) := by decide +kernel
theorem dX1_joined_51 : decode cX1_joined 51 = .ok (.goto 4, 3) := by decide +kernel
theorem dX1_joined_54 : decode cX1_joined 54 = .ok (.iconst 0, 1) := by decide +kernel
theorem dX1_joined_55 : decode cX1_joined 55 = .ok (.ireturn, 1) := by decide +kernel
theorem dX1_joined_56 : decode cX1_joined 56 = .ok (.iload_n 0, 1) := by decide +kernel
theorem dX1_joined_57 : decode cX1_joined 57 = .ok (.ifCond .eq 11, 3) := by decide +kernel
theorem dX1_joined_60 : decode cX1_joined 60 = .ok (.iload_n 1, 1) := by decide +kernel
theorem dX1_joined_61 : decode cX1_joined 61 = .ok (.ifCond .ne 7, 3) := by decide +kernel
theorem dX1_joined_64 : decode cX1_joined 64 = .ok (.iconst 1, 1) := by decide +kernel
theorem dX1_joined_65 : decode cX1_joined 65 = .ok (.goto 4, 3) := by decide +kernel
theorem dX1_joined_68 : decode cX1_joined 68 = .ok (.iconst 0, 1) := by decide +kernel
theorem dX1_joined_69 : decode cX1_joined 69 = .ok (.ireturn, 1) := by decide +kernel
theorem dX1_joined_70 : decode cX1_joined 70 = .ok (.iload_n 0, 1) := by decide +kernel
theorem dX1_joined_71 : decode cX1_joined 71 = .ok (.iload_n 1, 1) := by decide +kernel
theorem dX1_joined_72 : decode cX1_joined 72 = .ok (.if_icmp .eq 7, 3) := by decide +kernel
theorem dX1_joined_75 : decode cX1_joined 75 = .ok (.iconst 1, 1) := by decide +kernel
theorem dX1_joined_76 : decode cX1_joined 76 = .ok (.goto 4, 3) := by decide +kernel
theorem dX1_joined_79 : decode cX1_joined 79 = .ok (.iconst 0, 1) := by decide +kernel
theorem dX1_joined_80 : decode cX1_joined 80 = .ok (.ireturn, 1) := by decide +kernel
set_option maxRecDepth 20000 in
theorem ggX1_countNeighbours_X0_neighbour : GoodIn wsX1_countNeighbours wsX0_neighbour := goodIn_r _ [6, 7, 8, 9, 10, 11, 12, 23, 24] (by decide +kernel) (by decide +kernel)
set_option maxRecDepth 20000 in
theorem gX1_countNeighbours_X0_neighbour : GoodIn wsX1_countNeighbours (wsV RX1 49 RX0 yX0_neighbour wsX0_neighbour) := goodIn_app (goodIn_of _ (by decide +kernel)) ggX1_countNeighbours_X0_neighbour
set_option maxRecDepth 20000 in
theorem ggX1_countNeighbours_X1_holds : GoodIn wsX1_countNeighbours wsX1_holds := goodIn_r _ [16, 17, 18, 19, 20, 21, 22] (by decide +kernel) (by decide +kernel)
set_option maxRecDepth 20000 in
theorem gX1_countNeighbours_X1_holds : GoodIn wsX1_countNeighbours (wsV RX1 84 RX1 yX1_holds wsX1_holds) := goodIn_app (goodIn_of _ (by decide +kernel)) ggX1_countNeighbours_X1_holds
theorem dX1_countNeighbours_0 : decode cX1_countNeighbours 0 = .ok (.iconst 0, 1) := by decide +kernel
theorem dX1_countNeighbours_1 : decode cX1_countNeighbours 1 = .ok (.istore_n 3, 1) := by decide +kernel
theorem dX1_countNeighbours_2 : decode cX1_countNeighbours 2 = .ok (.iconst 1, 1) := by decide +kernel
theorem dX1_countNeighbours_3 : decode cX1_countNeighbours 3 = .ok (.istore 4, 2) := by decide +kernel
theorem dX1_countNeighbours_5 : decode cX1_countNeighbours 5 = .ok (.iload 4, 2) := by decide +kernel
theorem dX1_countNeighbours_7 : decode cX1_countNeighbours 7 = .ok (.bipush 6, 2) := by decide +kernel
theorem dX1_countNeighbours_9 : decode cX1_countNeighbours 9 = .ok (.if_icmp .gt 30, 3) := by decide +kernel
theorem dX1_countNeighbours_12 : decode cX1_countNeighbours 12 = .ok (.aload_n 0, 1) := by decide +kernel
theorem dX1_countNeighbours_13 : decode cX1_countNeighbours 13 = .ok (.iload_n 1, 1) := by decide +kernel
theorem dX1_countNeighbours_14 : decode cX1_countNeighbours 14 = .ok (.aload_n 0, 1) := by decide +kernel
theorem dX1_countNeighbours_15 : decode cX1_countNeighbours 15 = .ok (.getfield 10, 3) := by decide +kernel
theorem dX1_countNeighbours_18 : decode cX1_countNeighbours 18 = .ok (.iload_n 2, 1) := by decide +kernel
theorem dX1_countNeighbours_19 : decode cX1_countNeighbours 19 = .ok (.iload 4, 2) := by decide +kernel
theorem dX1_countNeighbours_21 : decode cX1_countNeighbours 21 = .ok (.invokevirtual 49, 3) := by decide +kernel
theorem dX1_countNeighbours_24 : decode cX1_countNeighbours 24 = .ok (.invokevirtual 84, 3) := by decide +kernel
theorem dX1_countNeighbours_27 : decode cX1_countNeighbours 27 = .ok (.ifCond .eq 6, 3) := by decide +kernel
theorem dX1_countNeighbours_30 : decode cX1_countNeighbours 30 = .ok (.iinc 3 1, 3) := by decide +kernel
theorem dX1_countNeighbours_33 : decode cX1_countNeighbours 33 = .ok (.iinc 4 1, 3) := by decide +kernel
theorem dX1_countNeighbours_36 : decode cX1_countNeighbours 36 = .ok (.goto (-31), 3) := by decide +kernel
theorem dX1_countNeighbours_39 : decode cX1_countNeighbours 39 = .ok (.iload_n 3, 1) := by decide +kernel
theorem dX1_countNeighbours_40 : decode cX1_countNeighbours 40 = .ok (.ireturn, 1) := by decide +kernel
set_option maxRecDepth 20000 in
theorem ggX1_isOfOrNextTo_X1_holds : GoodIn wsX1_isOfOrNextTo wsX1_holds := goodIn_r _ [5, 6, 22, 23, 24, 25, 26] (by decide +kernel) (by decide +kernel)
set_option maxRecDepth 20000 in
theorem gX1_isOfOrNextTo_X1_holds : GoodIn wsX1_isOfOrNextTo (wsV RX1 84 RX1 yX1_holds wsX1_holds) := goodIn_app (goodIn_of _ (by decide +kernel)) ggX1_isOfOrNextTo_X1_holds
set_option maxRecDepth 20000 in
theorem ggX1_isOfOrNextTo_X1_countNeighbours : GoodIn wsX1_isOfOrNextTo wsX1_countNeighbours := goodIn_r _ [10, 11, 12, 13, 14, 15, 16, 17, 18, 19, 20, 4, 21, 1, 2, 3, 5, 6, 22, 23, 24, 25, 26, 27, 28] (by decide +kernel) (by decide +kernel)
set_option maxRecDepth 20000 in
theorem gX1_isOfOrNextTo_X1_countNeighbours : GoodIn wsX1_isOfOrNextTo (wsV RX1 149 RX1 yX1_countNeighbours wsX1_countNeighbours) := goodIn_app (goodIn_of _ (by decide +kernel)) ggX1_isOfOrNextTo_X1_countNeighbours
theorem dX1_isOfOrNextTo_0 : decode cX1_isOfOrNextTo 0 = .ok (.aload_n 0, 1) := by decide +kernel
theorem dX1_isOfOrNextTo_1 : decode cX1_isOfOrNextTo 1 = .ok (.iload_n 1, 1) := by decide +kernel
theorem dX1_isOfOrNextTo_2 : decode cX1_isOfOrNextTo 2 = .ok (.iload_n 2, 1) := by decide +kernel
theorem dX1_isOfOrNextTo_3 : decode cX1_isOfOrNextTo 3 = .ok (.invokevirtual 84, 3) := by decide +kernel
theorem dX1_isOfOrNextTo_6 : decode cX1_isOfOrNextTo 6 = .ok (.ifCond .ne 12, 3) := by decide +kernel
theorem dX1_isOfOrNextTo_9 : decode cX1_isOfOrNextTo 9 = .ok (.aload_n 0, 1) := by decide +kernel
theorem dX1_isOfOrNextTo_10 : decode cX1_isOfOrNextTo 10 = .ok (.iload_n 1, 1) := by decide +kernel
theorem dX1_isOfOrNextTo_11 : decode cX1_isOfOrNextTo 11 = .ok (.iload_n 2, 1) := by decide +kernel
theorem dX1_isOfOrNextTo_12 : decode cX1_isOfOrNextTo 12 = .ok (.invokevirtual 149, 3) := by decide +kernel
theorem dX1_isOfOrNextTo_15 : decode cX1_isOfOrNextTo 15 = .ok (.ifCond .le 7, 3) := by decide +kernel
theorem dX1_isOfOrNextTo_18 : decode cX1_isOfOrNextTo 18 = .ok (.iconst 1, 1) := by decide +kernel
theorem dX1_isOfOrNextTo_19 : decode cX1_isOfOrNextTo 19 = .ok (.goto 4, 3) := by decide +kernel
theorem dX1_isOfOrNextTo_22 : decode cX1_isOfOrNextTo 22 = .ok (.iconst 0, 1) := by decide +kernel
theorem dX1_isOfOrNextTo_23 : decode cX1_isOfOrNextTo 23 = .ok (.ireturn, 1) := by decide +kernel
set_option maxRecDepth 20000 in
theorem ggX1_isDeepIn_X1_holds : GoodIn wsX1_isDeepIn wsX1_holds := goodIn_r _ [5, 6, 22, 23, 24, 25, 26] (by decide +kernel) (by decide +kernel)
set_option maxRecDepth 20000 in
theorem gX1_isDeepIn_X1_holds : GoodIn wsX1_isDeepIn (wsV RX1 84 RX1 yX1_holds wsX1_holds) := goodIn_app (goodIn_of _ (by decide +kernel)) ggX1_isDeepIn_X1_holds
set_option maxRecDepth 20000 in
theorem ggX1_isDeepIn_X1_countNeighbours : GoodIn wsX1_isDeepIn wsX1_countNeighbours := goodIn_r _ [10, 11, 12, 13, 14, 15, 16, 17, 18, 19, 20, 4, 21, 1, 2, 3, 5, 6, 22, 23, 24, 25, 26, 27, 28] (by decide +kernel) (by decide +kernel)
set_option maxRecDepth 20000 in
theorem gX1_isDeepIn_X1_countNeighbours : GoodIn wsX1_isDeepIn (wsV RX1 149 RX1 yX1_countNeighbours wsX1_countNeighbours) := goodIn_app (goodIn_of _ (by decide +kernel)) ggX1_isDeepIn_X1_countNeighbours
theorem dX1_isDeepIn_0 : decode cX1_isDeepIn 0 = .ok (.aload_n 0, 1) := by decide +kernel
theorem dX1_isDeepIn_1 : decode cX1_isDeepIn 1 = .ok (.iload_n 1, 1) := by decide +kernel
theorem dX1_isDeepIn_2 : decode cX1_isDeepIn 2 = .ok (.iload_n 2, 1) := by decide +kernel
theorem dX1_isDeepIn_3 : decode cX1_isDeepIn 3 = .ok (.invokevirtual 84, 3) := by decide +kernel
theorem dX1_isDeepIn_6 : decode cX1_isDeepIn 6 = .ok (.ifCond .eq 18, 3) := by decide +kernel
theorem dX1_isDeepIn_9 : decode cX1_isDeepIn 9 = .ok (.aload_n 0, 1) := by decide +kernel
theorem dX1_isDeepIn_10 : decode cX1_isDeepIn 10 = .ok (.iload_n 1, 1) := by decide +kernel
theorem dX1_isDeepIn_11 : decode cX1_isDeepIn 11 = .ok (.iload_n 2, 1) := by decide +kernel
theorem dX1_isDeepIn_12 : decode cX1_isDeepIn 12 = .ok (.invokevirtual 149, 3) := by decide +kernel
theorem dX1_isDeepIn_15 : decode cX1_isDeepIn 15 = .ok (.bipush 6, 2) := by decide +kernel
theorem dX1_isDeepIn_17 : decode cX1_isDeepIn 17 = .ok (.if_icmp .ne 7, 3) := by decide +kernel
theorem dX1_isDeepIn_20 : decode cX1_isDeepIn 20 = .ok (.iconst 1, 1) := by decide +kernel
theorem dX1_isDeepIn_21 : decode cX1_isDeepIn 21 = .ok (.goto 4, 3) := by decide +kernel
theorem dX1_isDeepIn_24 : decode cX1_isDeepIn 24 = .ok (.iconst 0, 1) := by decide +kernel
theorem dX1_isDeepIn_25 : decode cX1_isDeepIn 25 = .ok (.ireturn, 1) := by decide +kernel
set_option maxRecDepth 20000 in
theorem ggX1_borderOf_X1_holds : GoodIn wsX1_borderOf wsX1_holds := goodIn_r _ [5, 6, 22, 23, 24, 25, 26] (by decide +kernel) (by decide +kernel)
set_option maxRecDepth 20000 in
theorem gX1_borderOf_X1_holds : GoodIn wsX1_borderOf (wsV RX1 84 RX1 yX1_holds wsX1_holds) := goodIn_app (goodIn_of _ (by decide +kernel)) ggX1_borderOf_X1_holds
set_option maxRecDepth 20000 in
theorem ggX1_borderOf_X1_countNeighbours : GoodIn wsX1_borderOf wsX1_countNeighbours := goodIn_r _ [10, 11, 12, 13, 14, 15, 16, 17, 18, 19, 20, 4, 21, 1, 2, 3, 5, 6, 22, 23, 24, 25, 26, 27, 28] (by decide +kernel) (by decide +kernel)
set_option maxRecDepth 20000 in
theorem gX1_borderOf_X1_countNeighbours : GoodIn wsX1_borderOf (wsV RX1 149 RX1 yX1_countNeighbours wsX1_countNeighbours) := goodIn_app (goodIn_of _ (by decide +kernel)) ggX1_borderOf_X1_countNeighbours
theorem dX1_borderOf_0 : decode cX1_borderOf 0 = .ok (.iconst 0, 1) := by decide +kernel
theorem dX1_borderOf_1 : decode cX1_borderOf 1 = .ok (.istore_n 2, 1) := by decide +kernel
theorem dX1_borderOf_2 : decode cX1_borderOf 2 = .ok (.iconst 0, 1) := by decide +kernel
theorem dX1_borderOf_3 : decode cX1_borderOf 3 = .ok (.istore_n 3, 1) := by decide +kernel
theorem dX1_borderOf_4 : decode cX1_borderOf 4 = .ok (.iload_n 3, 1) := by decide +kernel
theorem dX1_borderOf_5 : decode cX1_borderOf 5 = .ok (.sipush 2401, 3) := by decide +kernel
theorem dX1_borderOf_8 : decode cX1_borderOf 8 = .ok (.if_icmp .ge 30, 3) := by decide +kernel
theorem dX1_borderOf_11 : decode cX1_borderOf 11 = .ok (.aload_n 0, 1) := by decide +kernel
theorem dX1_borderOf_12 : decode cX1_borderOf 12 = .ok (.iload_n 1, 1) := by decide +kernel
theorem dX1_borderOf_13 : decode cX1_borderOf 13 = .ok (.iload_n 3, 1) := by decide +kernel
theorem dX1_borderOf_14 : decode cX1_borderOf 14 = .ok (.invokevirtual 84, 3) := by decide +kernel
theorem dX1_borderOf_17 : decode cX1_borderOf 17 = .ok (.ifCond .eq 15, 3) := by decide +kernel
theorem dX1_borderOf_20 : decode cX1_borderOf 20 = .ok (.iload_n 2, 1) := by decide +kernel
theorem dX1_borderOf_21 : decode cX1_borderOf 21 = .ok (.bipush 6, 2) := by decide +kernel
theorem dX1_borderOf_23 : decode cX1_borderOf 23 = .ok (.aload_n 0, 1) := by decide +kernel
theorem dX1_borderOf_24 : decode cX1_borderOf 24 = .ok (.iload_n 1, 1) := by decide +kernel
theorem dX1_borderOf_25 : decode cX1_borderOf 25 = .ok (.iload_n 3, 1) := by decide +kernel
theorem dX1_borderOf_26 : decode cX1_borderOf 26 = .ok (.invokevirtual 149, 3) := by decide +kernel
theorem dX1_borderOf_29 : decode cX1_borderOf 29 = .ok (.isub, 1) := by decide +kernel
theorem dX1_borderOf_30 : decode cX1_borderOf 30 = .ok (.iadd, 1) := by decide +kernel
theorem dX1_borderOf_31 : decode cX1_borderOf 31 = .ok (.istore_n 2, 1) := by decide +kernel
theorem dX1_borderOf_32 : decode cX1_borderOf 32 = .ok (.iinc 3 1, 3) := by decide +kernel
theorem dX1_borderOf_35 : decode cX1_borderOf 35 = .ok (.goto (-31), 3) := by decide +kernel
theorem dX1_borderOf_38 : decode cX1_borderOf 38 = .ok (.iload_n 2, 1) := by decide +kernel
theorem dX1_borderOf_39 : decode cX1_borderOf 39 = .ok (.ireturn, 1) := by decide +kernel
theorem dX1_imageShift_0 : decode cX1_imageShift 0 = .ok (.iconst 4, 1) := by decide +kernel
theorem dX1_imageShift_1 : decode cX1_imageShift 1 = .ok (.iload_n 0, 1) := by decide +kernel
theorem dX1_imageShift_2 : decode cX1_imageShift 2 = .ok (.iconst 1, 1) := by decide +kernel
theorem dX1_imageShift_3 : decode cX1_imageShift 3 = .ok (.iadd, 1) := by decide +kernel
theorem dX1_imageShift_4 : decode cX1_imageShift 4 = .ok (.imul, 1) := by decide +kernel
theorem dX1_imageShift_5 : decode cX1_imageShift 5 = .ok (.ireturn, 1) := by decide +kernel
set_option maxRecDepth 20000 in
theorem ggX1_countPacked_X1_holds : GoodIn wsX1_countPacked wsX1_holds := goodIn_r _ [5, 6, 21, 22, 23, 24, 25] (by decide +kernel) (by decide +kernel)
set_option maxRecDepth 20000 in
theorem gX1_countPacked_X1_holds : GoodIn wsX1_countPacked (wsV RX1 84 RX1 yX1_holds wsX1_holds) := goodIn_app (goodIn_of _ (by decide +kernel)) ggX1_countPacked_X1_holds
set_option maxRecDepth 20000 in
theorem ggX1_countPacked_X1_packedLevel : GoodIn wsX1_countPacked wsX1_packedLevel := goodIn_r _ [10, 11, 12, 13, 4, 14, 15, 16, 17, 18, 19, 20, 1, 2, 3, 5, 6, 21, 22, 23, 24, 25] (by decide +kernel) (by decide +kernel)
set_option maxRecDepth 20000 in
theorem gX1_countPacked_X1_packedLevel : GoodIn wsX1_countPacked (wsV RX1 119 RX1 yX1_packedLevel wsX1_packedLevel) := goodIn_app (goodIn_of _ (by decide +kernel)) ggX1_countPacked_X1_packedLevel
set_option maxRecDepth 20000 in
theorem ggX1_countPacked_X1_patchSize : GoodIn wsX1_countPacked wsX1_patchSize := goodIn_r _ [20] (by decide +kernel) (by decide +kernel)
set_option maxRecDepth 20000 in
theorem gX1_countPacked_X1_patchSize : GoodIn wsX1_countPacked (va_wsS RX1 67 yX1_patchSize wsX1_patchSize) := goodIn_app (goodIn_of _ (by decide +kernel)) ggX1_countPacked_X1_patchSize
theorem dX1_countPacked_0 : decode cX1_countPacked 0 = .ok (.iconst 0, 1) := by decide +kernel
theorem dX1_countPacked_1 : decode cX1_countPacked 1 = .ok (.istore_n 2, 1) := by decide +kernel
theorem dX1_countPacked_2 : decode cX1_countPacked 2 = .ok (.iconst 0, 1) := by decide +kernel
theorem dX1_countPacked_3 : decode cX1_countPacked 3 = .ok (.istore_n 3, 1) := by decide +kernel
theorem dX1_countPacked_4 : decode cX1_countPacked 4 = .ok (.iconst 0, 1) := by decide +kernel
theorem dX1_countPacked_5 : decode cX1_countPacked 5 = .ok (.istore 4, 2) := by decide +kernel
theorem dX1_countPacked_7 : decode cX1_countPacked 7 = .ok (.iload 4, 2) := by decide +kernel
theorem dX1_countPacked_9 : decode cX1_countPacked 9 = .ok (.sipush 2401, 3) := by decide +kernel
theorem dX1_countPacked_12 : decode cX1_countPacked 12 = .ok (.if_icmp .ge 42, 3) := by decide +kernel
theorem dX1_countPacked_15 : decode cX1_countPacked 15 = .ok (.iload 4, 2) := by decide +kernel
theorem dX1_countPacked_17 : decode cX1_countPacked 17 = .ok (.iload_n 3, 1) := by decide +kernel
theorem dX1_countPacked_18 : decode cX1_countPacked 18 = .ok (.if_icmp .lt 30, 3) := by decide +kernel
theorem dX1_countPacked_21 : decode cX1_countPacked 21 = .ok (.aload_n 0, 1) := by decide +kernel
theorem dX1_countPacked_22 : decode cX1_countPacked 22 = .ok (.iload_n 1, 1) := by decide +kernel
theorem dX1_countPacked_23 : decode cX1_countPacked 23 = .ok (.iload 4, 2) := by decide +kernel
theorem dX1_countPacked_25 : decode cX1_countPacked 25 = .ok (.invokevirtual 84, 3) := by decide +kernel
theorem dX1_countPacked_28 : decode cX1_countPacked 28 = .ok (.ifCond .eq 20, 3) := by decide +kernel
theorem dX1_countPacked_31 : decode cX1_countPacked 31 = .ok (.iload 4, 2) := by decide +kernel
theorem dX1_countPacked_33 : decode cX1_countPacked 33 = .ok (.aload_n 0, 1) := by decide +kernel
theorem dX1_countPacked_34 : decode cX1_countPacked 34 = .ok (.iload_n 1, 1) := by decide +kernel
theorem dX1_countPacked_35 : decode cX1_countPacked 35 = .ok (.iload 4, 2) := by decide +kernel
theorem dX1_countPacked_37 : decode cX1_countPacked 37 = .ok (.invokevirtual 119, 3) := by decide +kernel
theorem dX1_countPacked_40 : decode cX1_countPacked 40 = .ok (.invokestatic 67, 3) := by decide +kernel
theorem dX1_countPacked_43 : decode cX1_countPacked 43 = .ok (.iadd, 1) := by decide +kernel
theorem dX1_countPacked_44 : decode cX1_countPacked 44 = .ok (.istore_n 3, 1) := by decide +kernel
theorem dX1_countPacked_45 : decode cX1_countPacked 45 = .ok (.iinc 2 1, 3) := by decide +kernel
theorem dX1_countPacked_48 : decode cX1_countPacked 48 = .ok (.iinc 4 1, 3) := by decide +kernel
theorem dX1_countPacked_51 : decode cX1_countPacked 51 = .ok (.goto (-44), 3) := by decide +kernel
theorem dX1_countPacked_54 : decode cX1_countPacked 54 = .ok (.iload_n 2, 1) := by decide +kernel
theorem dX1_countPacked_55 : decode cX1_countPacked 55 = .ok (.ireturn, 1) := by decide +kernel
set_option maxRecDepth 20000 in
theorem ggX1_countPackedOfAll_X1_countPacked : GoodIn wsX1_countPackedOfAll wsX1_countPacked := goodIn_r _ [5, 6, 7, 8, 4, 9, 10, 11, 12, 13, 14, 15, 16, 17, 18, 19, 20, 21, 22, 23, 24, 25, 26, 27, 28, 29] (by decide +kernel) (by decide +kernel)
set_option maxRecDepth 20000 in
theorem gX1_countPackedOfAll_X1_countPacked : GoodIn wsX1_countPackedOfAll (wsV RX1 98 RX1 yX1_countPacked wsX1_countPacked) := goodIn_app (goodIn_of _ (by decide +kernel)) ggX1_countPackedOfAll_X1_countPacked
theorem dX1_countPackedOfAll_0 : decode cX1_countPackedOfAll 0 = .ok (.iconst 0, 1) := by decide +kernel
theorem dX1_countPackedOfAll_1 : decode cX1_countPackedOfAll 1 = .ok (.istore_n 1, 1) := by decide +kernel
theorem dX1_countPackedOfAll_2 : decode cX1_countPackedOfAll 2 = .ok (.iconst 0, 1) := by decide +kernel
theorem dX1_countPackedOfAll_3 : decode cX1_countPackedOfAll 3 = .ok (.istore_n 2, 1) := by decide +kernel
theorem dX1_countPackedOfAll_4 : decode cX1_countPackedOfAll 4 = .ok (.iload_n 2, 1) := by decide +kernel
theorem dX1_countPackedOfAll_5 : decode cX1_countPackedOfAll 5 = .ok (.iconst 4, 1) := by decide +kernel
theorem dX1_countPackedOfAll_6 : decode cX1_countPackedOfAll 6 = .ok (.if_icmp .ge 17, 3) := by decide +kernel
theorem dX1_countPackedOfAll_9 : decode cX1_countPackedOfAll 9 = .ok (.iload_n 1, 1) := by decide +kernel
theorem dX1_countPackedOfAll_10 : decode cX1_countPackedOfAll 10 = .ok (.aload_n 0, 1) := by decide +kernel
theorem dX1_countPackedOfAll_11 : decode cX1_countPackedOfAll 11 = .ok (.iload_n 2, 1) := by decide +kernel
theorem dX1_countPackedOfAll_12 : decode cX1_countPackedOfAll 12 = .ok (.invokevirtual 98, 3) := by decide +kernel
theorem dX1_countPackedOfAll_15 : decode cX1_countPackedOfAll 15 = .ok (.iadd, 1) := by decide +kernel
theorem dX1_countPackedOfAll_16 : decode cX1_countPackedOfAll 16 = .ok (.istore_n 1, 1) := by decide +kernel
theorem dX1_countPackedOfAll_17 : decode cX1_countPackedOfAll 17 = .ok (.iinc 2 1, 3) := by decide +kernel
theorem dX1_countPackedOfAll_20 : decode cX1_countPackedOfAll 20 = .ok (.goto (-16), 3) := by decide +kernel
theorem dX1_countPackedOfAll_23 : decode cX1_countPackedOfAll 23 = .ok (.iload_n 1, 1) := by decide +kernel
theorem dX1_countPackedOfAll_24 : decode cX1_countPackedOfAll 24 = .ok (.ireturn, 1) := by decide +kernel
set_option maxRecDepth 20000 in
theorem ggX1_packedKey_X1_holds : GoodIn wsX1_packedKey wsX1_holds := goodIn_r _ [5, 6, 21, 22, 23, 24, 25] (by decide +kernel) (by decide +kernel)
set_option maxRecDepth 20000 in
theorem gX1_packedKey_X1_holds : GoodIn wsX1_packedKey (wsV RX1 84 RX1 yX1_holds wsX1_holds) := goodIn_app (goodIn_of _ (by decide +kernel)) ggX1_packedKey_X1_holds
set_option maxRecDepth 20000 in
theorem ggX1_packedKey_X1_packedLevel : GoodIn wsX1_packedKey wsX1_packedLevel := goodIn_r _ [10, 11, 12, 13, 4, 14, 15, 16, 17, 18, 19, 20, 1, 2, 3, 5, 6, 21, 22, 23, 24, 25] (by decide +kernel) (by decide +kernel)
set_option maxRecDepth 20000 in
theorem gX1_packedKey_X1_packedLevel : GoodIn wsX1_packedKey (wsV RX1 119 RX1 yX1_packedLevel wsX1_packedLevel) := goodIn_app (goodIn_of _ (by decide +kernel)) ggX1_packedKey_X1_packedLevel
set_option maxRecDepth 20000 in
theorem ggX1_packedKey_X1_patchSize : GoodIn wsX1_packedKey wsX1_patchSize := goodIn_r _ [20] (by decide +kernel) (by decide +kernel)
set_option maxRecDepth 20000 in
theorem gX1_packedKey_X1_patchSize : GoodIn wsX1_packedKey (va_wsS RX1 67 yX1_patchSize wsX1_patchSize) := goodIn_app (goodIn_of _ (by decide +kernel)) ggX1_packedKey_X1_patchSize
theorem dX1_packedKey_0 : decode cX1_packedKey 0 = .ok (.iconst 0, 1) := by decide +kernel
theorem dX1_packedKey_1 : decode cX1_packedKey 1 = .ok (.istore_n 3, 1) := by decide +kernel
theorem dX1_packedKey_2 : decode cX1_packedKey 2 = .ok (.iconst 0, 1) := by decide +kernel
theorem dX1_packedKey_3 : decode cX1_packedKey 3 = .ok (.istore 4, 2) := by decide +kernel
theorem dX1_packedKey_5 : decode cX1_packedKey 5 = .ok (.iconst 0, 1) := by decide +kernel
theorem dX1_packedKey_6 : decode cX1_packedKey 6 = .ok (.istore 5, 2) := by decide +kernel
theorem dX1_packedKey_8 : decode cX1_packedKey 8 = .ok (.iload 5, 2) := by decide +kernel
theorem dX1_packedKey_10 : decode cX1_packedKey 10 = .ok (.sipush 2401, 3) := by decide +kernel
theorem dX1_packedKey_13 : decode cX1_packedKey 13 = .ok (.if_icmp .ge 52, 3) := by decide +kernel
theorem dX1_packedKey_16 : decode cX1_packedKey 16 = .ok (.iload 5, 2) := by decide +kernel
theorem dX1_packedKey_18 : decode cX1_packedKey 18 = .ok (.iload 4, 2) := by decide +kernel
theorem dX1_packedKey_20 : decode cX1_packedKey 20 = .ok (.if_icmp .lt 39, 3) := by decide +kernel
theorem dX1_packedKey_23 : decode cX1_packedKey 23 = .ok (.aload_n 0, 1) := by decide +kernel
theorem dX1_packedKey_24 : decode cX1_packedKey 24 = .ok (.iload_n 1, 1) := by decide +kernel
theorem dX1_packedKey_25 : decode cX1_packedKey 25 = .ok (.iload 5, 2) := by decide +kernel
theorem dX1_packedKey_27 : decode cX1_packedKey 27 = .ok (.invokevirtual 84, 3) := by decide +kernel
theorem dX1_packedKey_30 : decode cX1_packedKey 30 = .ok (.ifCond .eq 29, 3) := by decide +kernel
theorem dX1_packedKey_33 : decode cX1_packedKey 33 = .ok (.iload_n 3, 1) := by decide +kernel
theorem dX1_packedKey_34 : decode cX1_packedKey 34 = .ok (.iload_n 2, 1) := by decide +kernel
theorem dX1_packedKey_35 : decode cX1_packedKey 35 = .ok (.if_icmp .ne 6, 3) := by decide +kernel
theorem dX1_packedKey_38 : decode cX1_packedKey 38 = .ok (.iload 5, 2) := by decide +kernel
theorem dX1_packedKey_40 : decode cX1_packedKey 40 = .ok (.ireturn, 1) := by decide +kernel
theorem dX1_packedKey_41 : decode cX1_packedKey 41 = .ok (.iload 5, 2) := by decide +kernel
theorem dX1_packedKey_43 : decode cX1_packedKey 43 = .ok (.aload_n 0, 1) := by decide +kernel
theorem dX1_packedKey_44 : decode cX1_packedKey 44 = .ok (.iload_n 1, 1) := by decide +kernel
theorem dX1_packedKey_45 : decode cX1_packedKey 45 = .ok (.iload 5, 2) := by decide +kernel
theorem dX1_packedKey_47 : decode cX1_packedKey 47 = .ok (.invokevirtual 119, 3) := by decide +kernel
theorem dX1_packedKey_50 : decode cX1_packedKey 50 = .ok (.invokestatic 67, 3) := by decide +kernel
theorem dX1_packedKey_53 : decode cX1_packedKey 53 = .ok (.iadd, 1) := by decide +kernel
theorem dX1_packedKey_54 : decode cX1_packedKey 54 = .ok (.istore 4, 2) := by decide +kernel
theorem dX1_packedKey_56 : decode cX1_packedKey 56 = .ok (.iinc 3 1, 3) := by decide +kernel
theorem dX1_packedKey_59 : decode cX1_packedKey 59 = .ok (.iinc 5 1, 3) := by decide +kernel
theorem dX1_packedKey_62 : decode cX1_packedKey 62 = .ok (.goto (-54), 3) := by decide +kernel
theorem dX1_packedKey_65 : decode cX1_packedKey 65 = .ok (.bipush (-6), 2) := by decide +kernel
theorem dX1_packedKey_67 : decode cX1_packedKey 67 = .ok (.ireturn, 1) := by decide +kernel
set_option maxRecDepth 20000 in
theorem ggX1_packedLevel_X1_patchLiesIn : GoodIn wsX1_packedLevel wsX1_patchLiesIn := goodIn_r _ [5, 6, 7, 4, 8, 9, 10, 11, 12, 13, 14, 15, 16, 17, 18, 19, 20, 21] (by decide +kernel) (by decide +kernel)
set_option maxRecDepth 20000 in
theorem gX1_packedLevel_X1_patchLiesIn : GoodIn wsX1_packedLevel (wsV RX1 152 RX1 yX1_patchLiesIn wsX1_patchLiesIn) := goodIn_app (goodIn_of _ (by decide +kernel)) ggX1_packedLevel_X1_patchLiesIn
theorem dX1_packedLevel_0 : decode cX1_packedLevel 0 = .ok (.iconst 0, 1) := by decide +kernel
theorem dX1_packedLevel_1 : decode cX1_packedLevel 1 = .ok (.istore_n 3, 1) := by decide +kernel
theorem dX1_packedLevel_2 : decode cX1_packedLevel 2 = .ok (.iload_n 3, 1) := by decide +kernel
theorem dX1_packedLevel_3 : decode cX1_packedLevel 3 = .ok (.iconst 4, 1) := by decide +kernel
theorem dX1_packedLevel_4 : decode cX1_packedLevel 4 = .ok (.if_icmp .ge 21, 3) := by decide +kernel
theorem dX1_packedLevel_7 : decode cX1_packedLevel 7 = .ok (.aload_n 0, 1) := by decide +kernel
theorem dX1_packedLevel_8 : decode cX1_packedLevel 8 = .ok (.iload_n 1, 1) := by decide +kernel
theorem dX1_packedLevel_9 : decode cX1_packedLevel 9 = .ok (.iload_n 2, 1) := by decide +kernel
theorem dX1_packedLevel_10 : decode cX1_packedLevel 10 = .ok (.iload_n 3, 1) := by decide +kernel
theorem dX1_packedLevel_11 : decode cX1_packedLevel 11 = .ok (.iconst 1, 1) := by decide +kernel
theorem dX1_packedLevel_12 : decode cX1_packedLevel 12 = .ok (.iadd, 1) := by decide +kernel
theorem dX1_packedLevel_13 : decode cX1_packedLevel 13 = .ok (.invokevirtual 152, 3) := by decide +kernel
theorem dX1_packedLevel_16 : decode cX1_packedLevel 16 = .ok (.ifCond .eq 9, 3) := by decide +kernel
theorem dX1_packedLevel_19 : decode cX1_packedLevel 19 = .ok (.iinc 3 1, 3) := by decide +kernel
theorem dX1_packedLevel_22 : decode cX1_packedLevel 22 = .ok (.goto (-20), 3) := by decide +kernel
theorem dX1_packedLevel_25 : decode cX1_packedLevel 25 = .ok (.iload_n 3, 1) := by decide +kernel
theorem dX1_packedLevel_26 : decode cX1_packedLevel 26 = .ok (.ireturn, 1) := by decide +kernel
set_option maxRecDepth 20000 in
theorem ggX1_patchLiesIn_X1_patchOf : GoodIn wsX1_patchLiesIn wsX1_patchOf := goodIn_r _ [4, 5, 6, 3, 7] (by decide +kernel) (by decide +kernel)
set_option maxRecDepth 20000 in
theorem gX1_patchLiesIn_X1_patchOf : GoodIn wsX1_patchLiesIn (va_wsS RX1 58 yX1_patchOf wsX1_patchOf) := goodIn_app (goodIn_of _ (by decide +kernel)) ggX1_patchLiesIn_X1_patchOf
set_option maxRecDepth 20000 in
theorem ggX1_patchLiesIn_X1_patchSize : GoodIn wsX1_patchLiesIn wsX1_patchSize := goodIn_r _ [7] (by decide +kernel) (by decide +kernel)
set_option maxRecDepth 20000 in
theorem gX1_patchLiesIn_X1_patchSize : GoodIn wsX1_patchLiesIn (va_wsS RX1 67 yX1_patchSize wsX1_patchSize) := goodIn_app (goodIn_of _ (by decide +kernel)) ggX1_patchLiesIn_X1_patchSize
set_option maxRecDepth 20000 in
theorem ggX1_patchLiesIn_X1_holds : GoodIn wsX1_patchLiesIn wsX1_holds := goodIn_r _ [11, 12, 13, 14, 15, 16, 17] (by decide +kernel) (by decide +kernel)
set_option maxRecDepth 20000 in
theorem gX1_patchLiesIn_X1_holds : GoodIn wsX1_patchLiesIn (wsV RX1 84 RX1 yX1_holds wsX1_holds) := goodIn_app (goodIn_of _ (by decide +kernel)) ggX1_patchLiesIn_X1_holds
theorem dX1_patchLiesIn_0 : decode cX1_patchLiesIn 0 = .ok (.iload_n 2, 1) := by decide +kernel
theorem dX1_patchLiesIn_1 : decode cX1_patchLiesIn 1 = .ok (.iload_n 3, 1) := by decide +kernel
theorem dX1_patchLiesIn_2 : decode cX1_patchLiesIn 2 = .ok (.invokestatic 58, 3) := by decide +kernel
theorem dX1_patchLiesIn_5 : decode cX1_patchLiesIn 5 = .ok (.iload_n 2, 1) := by decide +kernel
theorem dX1_patchLiesIn_6 : decode cX1_patchLiesIn 6 = .ok (.if_icmp .eq 5, 3) := by decide +kernel
theorem dX1_patchLiesIn_9 : decode cX1_patchLiesIn 9 = .ok (.iconst 0, 1) := by decide +kernel
theorem dX1_patchLiesIn_10 : decode cX1_patchLiesIn 10 = .ok (.ireturn, 1) := by decide +kernel
theorem dX1_patchLiesIn_11 : decode cX1_patchLiesIn 11 = .ok (.iload_n 2, 1) := by decide +kernel
theorem dX1_patchLiesIn_12 : decode cX1_patchLiesIn 12 = .ok (.iload_n 3, 1) := by decide +kernel
theorem dX1_patchLiesIn_13 : decode cX1_patchLiesIn 13 = .ok (.invokestatic 67, 3) := by decide +kernel
theorem dX1_patchLiesIn_16 : decode cX1_patchLiesIn 16 = .ok (.iadd, 1) := by decide +kernel
theorem dX1_patchLiesIn_17 : decode cX1_patchLiesIn 17 = .ok (.istore 4, 2) := by decide +kernel
theorem dX1_patchLiesIn_19 : decode cX1_patchLiesIn 19 = .ok (.iload_n 2, 1) := by decide +kernel
theorem dX1_patchLiesIn_20 : decode cX1_patchLiesIn 20 = .ok (.istore 5, 2) := by decide +kernel
theorem dX1_patchLiesIn_22 : decode cX1_patchLiesIn 22 = .ok (.iload 5, 2) := by decide +kernel
theorem dX1_patchLiesIn_24 : decode cX1_patchLiesIn 24 = .ok (.iload 4, 2) := by decide +kernel
theorem dX1_patchLiesIn_26 : decode cX1_patchLiesIn 26 = .ok (.if_icmp .ge 21, 3) := by decide +kernel
theorem dX1_patchLiesIn_29 : decode cX1_patchLiesIn 29 = .ok (.aload_n 0, 1) := by decide +kernel
theorem dX1_patchLiesIn_30 : decode cX1_patchLiesIn 30 = .ok (.iload_n 1, 1) := by decide +kernel
theorem dX1_patchLiesIn_31 : decode cX1_patchLiesIn 31 = .ok (.iload 5, 2) := by decide +kernel
theorem dX1_patchLiesIn_33 : decode cX1_patchLiesIn 33 = .ok (.invokevirtual 84, 3) := by decide +kernel
theorem dX1_patchLiesIn_36 : decode cX1_patchLiesIn 36 = .ok (.ifCond .ne 5, 3) := by decide +kernel
theorem dX1_patchLiesIn_39 : decode cX1_patchLiesIn 39 = .ok (.iconst 0, 1) := by decide +kernel
theorem dX1_patchLiesIn_40 : decode cX1_patchLiesIn 40 = .ok (.ireturn, 1) := by decide +kernel
theorem dX1_patchLiesIn_41 : decode cX1_patchLiesIn 41 = .ok (.iinc 5 1, 3) := by decide +kernel
theorem dX1_patchLiesIn_44 : decode cX1_patchLiesIn 44 = .ok (.goto (-22), 3) := by decide +kernel
theorem dX1_patchLiesIn_47 : decode cX1_patchLiesIn 47 = .ok (.iconst 1, 1) := by decide +kernel
theorem dX1_patchLiesIn_48 : decode cX1_patchLiesIn 48 = .ok (.ireturn, 1) := by decide +kernel
set_option maxRecDepth 20000 in
theorem ggX1_isMarked_X1_valueAt : GoodIn wsX1_isMarked wsX1_valueAt := goodIn_r _ [5] (by decide +kernel) (by decide +kernel)
set_option maxRecDepth 20000 in
theorem gX1_isMarked_X1_valueAt : GoodIn wsX1_isMarked (va_wsS RX1 131 yX1_valueAt wsX1_valueAt) := goodIn_app (goodIn_of _ (by decide +kernel)) ggX1_isMarked_X1_valueAt
theorem dX1_isMarked_0 : decode cX1_isMarked 0 = .ok (.aload_n 0, 1) := by decide +kernel
theorem dX1_isMarked_1 : decode cX1_isMarked 1 = .ok (.getfield 24, 3) := by decide +kernel
theorem dX1_isMarked_4 : decode cX1_isMarked 4 = .ok (.iload_n 1, 1) := by decide +kernel
theorem dX1_isMarked_5 : decode cX1_isMarked 5 = .ok (.invokestatic 131, 3) := by decide +kernel
theorem dX1_isMarked_8 : decode cX1_isMarked 8 = .ok (.ifCond .le 7, 3) := by decide +kernel
theorem dX1_isMarked_11 : decode cX1_isMarked 11 = .ok (.iconst 1, 1) := by decide +kernel
theorem dX1_isMarked_12 : decode cX1_isMarked 12 = .ok (.goto 4, 3) := by decide +kernel
theorem dX1_isMarked_15 : decode cX1_isMarked 15 = .ok (.iconst 0, 1) := by decide +kernel
theorem dX1_isMarked_16 : decode cX1_isMarked 16 = .ok (.ireturn, 1) := by decide +kernel
theorem dX1_mark_0 : decode cX1_mark 0 = .ok (.iconst 0, 1) := by decide +kernel
theorem dX1_mark_1 : decode cX1_mark 1 = .ok (.iload_n 1, 1) := by decide +kernel
theorem dX1_mark_2 : decode cX1_mark 2 = .ok (.if_icmp .gt 19, 3) := by decide +kernel
theorem dX1_mark_5 : decode cX1_mark 5 = .ok (.iload_n 1, 1) := by decide +kernel
theorem dX1_mark_6 : decode cX1_mark 6 = .ok (.aload_n 0, 1) := by decide +kernel
theorem dX1_mark_7 : decode cX1_mark 7 = .ok (.getfield 24, 3) := by decide +kernel
theorem dX1_mark_10 : decode cX1_mark 10 = .ok (.arraylength, 1) := by decide +kernel
theorem dX1_mark_11 : decode cX1_mark 11 = .ok (.if_icmp .ge 10, 3) := by decide +kernel
theorem dX1_mark_14 : decode cX1_mark 14 = .ok (.aload_n 0, 1) := by decide +kernel
theorem dX1_mark_15 : decode cX1_mark 15 = .ok (.getfield 24, 3) := by decide +kernel
theorem dX1_mark_18 : decode cX1_mark 18 = .ok (.iload_n 1, 1) := by decide +kernel
theorem dX1_mark_19 : decode cX1_mark 19 = .ok (.iload_n 2, 1) := by decide +kernel
theorem dX1_mark_20 : decode cX1_mark 20 = .ok (.iastore, 1) := by decide +kernel
theorem dX1_mark_21 : decode cX1_mark 21 = .ok (.return_, 1) := by decide +kernel
set_option maxRecDepth 20000 in
theorem ggX1_startsPiece_X1_holds : GoodIn wsX1_startsPiece wsX1_holds := goodIn_r _ [5, 6, 15, 16, 17, 18, 19] (by decide +kernel) (by decide +kernel)
set_option maxRecDepth 20000 in
theorem gX1_startsPiece_X1_holds : GoodIn wsX1_startsPiece (wsV RX1 84 RX1 yX1_holds wsX1_holds) := goodIn_app (goodIn_of _ (by decide +kernel)) ggX1_startsPiece_X1_holds
set_option maxRecDepth 20000 in
theorem ggX1_startsPiece_X1_isMarked : GoodIn wsX1_startsPiece wsX1_isMarked := goodIn_r _ [10, 11, 12, 13, 4, 14, 15, 16, 17, 18, 19] (by decide +kernel) (by decide +kernel)
set_option maxRecDepth 20000 in
theorem gX1_startsPiece_X1_isMarked : GoodIn wsX1_startsPiece (wsV RX1 128 RX1 yX1_isMarked wsX1_isMarked) := goodIn_app (goodIn_of _ (by decide +kernel)) ggX1_startsPiece_X1_isMarked
theorem dX1_startsPiece_0 : decode cX1_startsPiece 0 = .ok (.aload_n 0, 1) := by decide +kernel
theorem dX1_startsPiece_1 : decode cX1_startsPiece 1 = .ok (.iload_n 1, 1) := by decide +kernel
theorem dX1_startsPiece_2 : decode cX1_startsPiece 2 = .ok (.iload_n 2, 1) := by decide +kernel
theorem dX1_startsPiece_3 : decode cX1_startsPiece 3 = .ok (.invokevirtual 84, 3) := by decide +kernel
theorem dX1_startsPiece_6 : decode cX1_startsPiece 6 = .ok (.ifCond .eq 15, 3) := by decide +kernel
theorem dX1_startsPiece_9 : decode cX1_startsPiece 9 = .ok (.aload_n 0, 1) := by decide +kernel
theorem dX1_startsPiece_10 : decode cX1_startsPiece 10 = .ok (.iload_n 2, 1) := by decide +kernel
theorem dX1_startsPiece_11 : decode cX1_startsPiece 11 = .ok (.invokevirtual 128, 3) := by decide +kernel
theorem dX1_startsPiece_14 : decode cX1_startsPiece 14 = .ok (.ifCond .ne 7, 3) := by decide +kernel
theorem dX1_startsPiece_17 : decode cX1_startsPiece 17 = .ok (.iconst 1, 1) := by decide +kernel
theorem dX1_startsPiece_18 : decode cX1_startsPiece 18 = .ok (.goto 4, 3) := by decide +kernel
theorem dX1_startsPiece_21 : decode cX1_startsPiece 21 = .ok (.iconst 0, 1) := by decide +kernel
theorem dX1_startsPiece_22 : decode cX1_startsPiece 22 = .ok (.ireturn, 1) := by decide +kernel
set_option maxRecDepth 20000 in
theorem ggX1_countPieces_J7_fill_53178 : GoodIn wsX1_countPieces wsJ7_fill_53178 := goodIn_r _ [5] (by decide +kernel) (by decide +kernel)
set_option maxRecDepth 20000 in
theorem gX1_countPieces_J7_fill_53178 : GoodIn wsX1_countPieces (va_wsS RX1 61 yJ7_fill_53178 wsJ7_fill_53178) := goodIn_app (goodIn_of _ (by decide +kernel)) ggX1_countPieces_J7_fill_53178
set_option maxRecDepth 20000 in
theorem ggX1_countPieces_X1_startsPiece : GoodIn wsX1_countPieces wsX1_startsPiece := goodIn_r _ [10, 11, 12, 13, 9, 14, 15, 16, 17, 18, 19, 1, 20, 21, 22, 49, 50, 51, 52, 53] (by decide +kernel) (by decide +kernel)
set_option maxRecDepth 20000 in
theorem gX1_countPieces_X1_startsPiece : GoodIn wsX1_countPieces (wsV RX1 122 RX1 yX1_startsPiece wsX1_startsPiece) := goodIn_app (goodIn_of _ (by decide +kernel)) ggX1_countPieces_X1_startsPiece
set_option maxRecDepth 20000 in
theorem ggX1_countPieces_X1_flood : GoodIn wsX1_countPieces wsX1_flood := goodIn_r _ [26, 27, 28, 29, 30, 9, 31, 1, 32, 33, 34, 35, 36, 37, 38, 39, 40, 20, 21, 22, 41, 42, 43, 44, 45, 46, 47, 48, 6, 7, 8, 10, 11, 12, 13, 14, 15, 16, 17, 18, 19, 49, 50, 51, 52, 53, 54, 55] (by decide +kernel) (by decide +kernel)
set_option maxRecDepth 20000 in
theorem gX1_countPieces_X1_flood : GoodIn wsX1_countPieces (wsV RX1 125 RX1 yX1_flood wsX1_flood) := goodIn_app (goodIn_of _ (by decide +kernel)) ggX1_countPieces_X1_flood
theorem dX1_countPieces_0 : decode cX1_countPieces 0 = .ok (.aload_n 0, 1) := by decide +kernel
theorem dX1_countPieces_1 : decode cX1_countPieces 1 = .ok (.getfield 24, 3) := by decide +kernel
theorem dX1_countPieces_4 : decode cX1_countPieces 4 = .ok (.iconst 0, 1) := by decide +kernel
theorem dX1_countPieces_5 : decode cX1_countPieces 5 = .ok (.invokestatic 61, 3) := by decide +kernel
theorem dX1_countPieces_8 : decode cX1_countPieces 8 = .ok (.iconst 0, 1) := by decide +kernel
theorem dX1_countPieces_9 : decode cX1_countPieces 9 = .ok (.istore_n 2, 1) := by decide +kernel
theorem dX1_countPieces_10 : decode cX1_countPieces 10 = .ok (.iconst 0, 1) := by decide +kernel
theorem dX1_countPieces_11 : decode cX1_countPieces 11 = .ok (.istore_n 3, 1) := by decide +kernel
theorem dX1_countPieces_12 : decode cX1_countPieces 12 = .ok (.iload_n 3, 1) := by decide +kernel
theorem dX1_countPieces_13 : decode cX1_countPieces 13 = .ok (.sipush 2401, 3) := by decide +kernel
theorem dX1_countPieces_16 : decode cX1_countPieces 16 = .ok (.if_icmp .ge 28, 3) := by decide +kernel
theorem dX1_countPieces_19 : decode cX1_countPieces 19 = .ok (.aload_n 0, 1) := by decide +kernel
theorem dX1_countPieces_20 : decode cX1_countPieces 20 = .ok (.iload_n 1, 1) := by decide +kernel
theorem dX1_countPieces_21 : decode cX1_countPieces 21 = .ok (.iload_n 3, 1) := by decide +kernel
theorem dX1_countPieces_22 : decode cX1_countPieces 22 = .ok (.invokevirtual 122, 3) := by decide +kernel
theorem dX1_countPieces_25 : decode cX1_countPieces 25 = .ok (.ifCond .eq 13, 3) := by decide +kernel
theorem dX1_countPieces_28 : decode cX1_countPieces 28 = .ok (.aload_n 0, 1) := by decide +kernel
theorem dX1_countPieces_29 : decode cX1_countPieces 29 = .ok (.iload_n 1, 1) := by decide +kernel
theorem dX1_countPieces_30 : decode cX1_countPieces 30 = .ok (.iload_n 3, 1) := by decide +kernel
theorem dX1_countPieces_31 : decode cX1_countPieces 31 = .ok (.invokevirtual 125, 3) := by decide +kernel
theorem dX1_countPieces_34 : decode cX1_countPieces 34 = .ok (.pop, 1) := by decide +kernel
theorem dX1_countPieces_35 : decode cX1_countPieces 35 = .ok (.iinc 2 1, 3) := by decide +kernel
theorem dX1_countPieces_38 : decode cX1_countPieces 38 = .ok (.iinc 3 1, 3) := by decide +kernel
theorem dX1_countPieces_41 : decode cX1_countPieces 41 = .ok (.goto (-29), 3) := by decide +kernel
theorem dX1_countPieces_44 : decode cX1_countPieces 44 = .ok (.iload_n 2, 1) := by decide +kernel
theorem dX1_countPieces_45 : decode cX1_countPieces 45 = .ok (.ireturn, 1) := by decide +kernel
set_option maxRecDepth 20000 in
theorem ggX1_greatestPiece_J7_fill_53178 : GoodIn wsX1_greatestPiece wsJ7_fill_53178 := goodIn_r _ [9] (by decide +kernel) (by decide +kernel)
set_option maxRecDepth 20000 in
theorem gX1_greatestPiece_J7_fill_53178 : GoodIn wsX1_greatestPiece (va_wsS RX1 61 yJ7_fill_53178 wsJ7_fill_53178) := goodIn_app (goodIn_of _ (by decide +kernel)) ggX1_greatestPiece_J7_fill_53178
set_option maxRecDepth 20000 in
theorem ggX1_greatestPiece_X1_startsPiece : GoodIn wsX1_greatestPiece wsX1_startsPiece := goodIn_r _ [14, 15, 16, 17, 13, 18, 19, 20, 21, 22, 23, 1, 24, 25, 26, 53, 54, 55, 56, 57] (by decide +kernel) (by decide +kernel)
set_option maxRecDepth 20000 in
theorem gX1_greatestPiece_X1_startsPiece : GoodIn wsX1_greatestPiece (wsV RX1 122 RX1 yX1_startsPiece wsX1_startsPiece) := goodIn_app (goodIn_of _ (by decide +kernel)) ggX1_greatestPiece_X1_startsPiece
set_option maxRecDepth 20000 in
theorem ggX1_greatestPiece_X1_flood : GoodIn wsX1_greatestPiece wsX1_flood := goodIn_r _ [30, 31, 32, 33, 34, 13, 35, 1, 36, 37, 38, 39, 40, 41, 42, 43, 44, 24, 25, 26, 45, 46, 47, 48, 49, 50, 51, 52, 10, 11, 12, 14, 15, 16, 17, 18, 19, 20, 21, 22, 23, 53, 54, 55, 56, 57, 58, 59] (by decide +kernel) (by decide +kernel)
set_option maxRecDepth 20000 in
theorem gX1_greatestPiece_X1_flood : GoodIn wsX1_greatestPiece (wsV RX1 125 RX1 yX1_flood wsX1_flood) := goodIn_app (goodIn_of _ (by decide +kernel)) ggX1_greatestPiece_X1_flood
theorem dX1_greatestPiece_0 : decode cX1_greatestPiece 0 = .ok (.aload_n 0, 1) := by decide +kernel
theorem dX1_greatestPiece_1 : decode cX1_greatestPiece 1 = .ok (.getfield 24, 3) := by decide +kernel
theorem dX1_greatestPiece_4 : decode cX1_greatestPiece 4 = .ok (.iconst 0, 1) := by decide +kernel
theorem dX1_greatestPiece_5 : decode cX1_greatestPiece 5 = .ok (.invokestatic 61, 3) := by decide +kernel
theorem dX1_greatestPiece_8 : decode cX1_greatestPiece 8 = .ok (.iconst 0, 1) := by decide +kernel
theorem dX1_greatestPiece_9 : decode cX1_greatestPiece 9 = .ok (.istore_n 2, 1) := by decide +kernel
theorem dX1_greatestPiece_10 : decode cX1_greatestPiece 10 = .ok (.iconst 0, 1) := by decide +kernel
theorem dX1_greatestPiece_11 : decode cX1_greatestPiece 11 = .ok (.istore_n 3, 1) := by decide +kernel
theorem dX1_greatestPiece_12 : decode cX1_greatestPiece 12 = .ok (.iload_n 3, 1) := by decide +kernel
theorem dX1_greatestPiece_13 : decode cX1_greatestPiece 13 = .ok (.sipush 2401, 3) := by decide +kernel
theorem dX1_greatestPiece_16 : decode cX1_greatestPiece 16 = .ok (.if_icmp .ge 29, 3) := by decide +kernel
theorem dX1_greatestPiece_19 : decode cX1_greatestPiece 19 = .ok (.aload_n 0, 1) := by decide +kernel
theorem dX1_greatestPiece_20 : decode cX1_greatestPiece 20 = .ok (.iload_n 1, 1) := by decide +kernel
theorem dX1_greatestPiece_21 : decode cX1_greatestPiece 21 = .ok (.iload_n 3, 1) := by decide +kernel
theorem dX1_greatestPiece_22 : decode cX1_greatestPiece 22 = .ok (.invokevirtual 122, 3) := by decide +kernel
theorem dX1_greatestPiece_25 : decode cX1_greatestPiece 25 = .ok (.ifCond .eq 14, 3) := by decide +kernel
theorem dX1_greatestPiece_28 : decode cX1_greatestPiece 28 = .ok (.iload_n 2, 1) := by decide +kernel
theorem dX1_greatestPiece_29 : decode cX1_greatestPiece 29 = .ok (.aload_n 0, 1) := by decide +kernel
theorem dX1_greatestPiece_30 : decode cX1_greatestPiece 30 = .ok (.iload_n 1, 1) := by decide +kernel
theorem dX1_greatestPiece_31 : decode cX1_greatestPiece 31 = .ok (.iload_n 3, 1) := by decide +kernel
theorem dX1_greatestPiece_32 : decode cX1_greatestPiece 32 = .ok (.invokevirtual 125, 3) := by decide +kernel
theorem dX1_greatestPiece_35 : decode cX1_greatestPiece 35 = .ok (.invokestatic 155, 3) := by decide +kernel
theorem dX1_greatestPiece_38 : decode cX1_greatestPiece 38 = .ok (.istore_n 2, 1) := by decide +kernel
theorem dX1_greatestPiece_39 : decode cX1_greatestPiece 39 = .ok (.iinc 3 1, 3) := by decide +kernel
theorem dX1_greatestPiece_42 : decode cX1_greatestPiece 42 = .ok (.goto (-30), 3) := by decide +kernel
theorem dX1_greatestPiece_45 : decode cX1_greatestPiece 45 = .ok (.iload_n 2, 1) := by decide +kernel
theorem dX1_greatestPiece_46 : decode cX1_greatestPiece 46 = .ok (.ireturn, 1) := by decide +kernel
set_option maxRecDepth 20000 in
theorem ggX1_flood_X1_mark : GoodIn wsX1_flood wsX1_mark := goodIn_r _ [6, 7, 41, 42, 43, 44, 45] (by decide +kernel) (by decide +kernel)
set_option maxRecDepth 20000 in
theorem gX1_flood_X1_mark : GoodIn wsX1_flood (wsV RX1 145 RX1 yX1_mark wsX1_mark) := goodIn_app (goodIn_of _ (by decide +kernel)) ggX1_flood_X1_mark
set_option maxRecDepth 20000 in
theorem ggX1_flood_X1_enqueue : GoodIn wsX1_flood wsX1_enqueue := goodIn_r _ [11, 1, 41, 42, 43, 44, 45] (by decide +kernel) (by decide +kernel)
set_option maxRecDepth 20000 in
theorem gX1_flood_X1_enqueue : GoodIn wsX1_flood (wsV RX1 160 RX1 yX1_enqueue wsX1_enqueue) := goodIn_app (goodIn_of _ (by decide +kernel)) ggX1_flood_X1_enqueue
set_option maxRecDepth 20000 in
theorem ggX1_flood_X1_floodOn : GoodIn wsX1_flood wsX1_floodOn := goodIn_r _ [15, 7, 16, 17, 18, 5, 19, 20, 21, 22, 23, 24, 25, 26, 27, 28, 29, 30, 31, 32, 33, 34, 35, 36, 37, 38, 39, 40, 2, 3, 4, 6, 8, 9, 10, 11, 1, 41, 42, 43, 44, 45, 46, 47] (by decide +kernel) (by decide +kernel)
set_option maxRecDepth 20000 in
theorem gX1_flood_X1_floodOn : GoodIn wsX1_flood (wsV RX1 163 RX1 yX1_floodOn wsX1_floodOn) := goodIn_app (goodIn_of _ (by decide +kernel)) ggX1_flood_X1_floodOn
theorem dX1_flood_0 : decode cX1_flood 0 = .ok (.aload_n 0, 1) := by decide +kernel
theorem dX1_flood_1 : decode cX1_flood 1 = .ok (.iload_n 2, 1) := by decide +kernel
theorem dX1_flood_2 : decode cX1_flood 2 = .ok (.iconst 1, 1) := by decide +kernel
theorem dX1_flood_3 : decode cX1_flood 3 = .ok (.invokevirtual 145, 3) := by decide +kernel
theorem dX1_flood_6 : decode cX1_flood 6 = .ok (.aload_n 0, 1) := by decide +kernel
theorem dX1_flood_7 : decode cX1_flood 7 = .ok (.iload_n 2, 1) := by decide +kernel
theorem dX1_flood_8 : decode cX1_flood 8 = .ok (.iconst 0, 1) := by decide +kernel
theorem dX1_flood_9 : decode cX1_flood 9 = .ok (.invokevirtual 160, 3) := by decide +kernel
theorem dX1_flood_12 : decode cX1_flood 12 = .ok (.istore_n 3, 1) := by decide +kernel
theorem dX1_flood_13 : decode cX1_flood 13 = .ok (.iconst 0, 1) := by decide +kernel
theorem dX1_flood_14 : decode cX1_flood 14 = .ok (.istore 4, 2) := by decide +kernel
theorem dX1_flood_16 : decode cX1_flood 16 = .ok (.iload 4, 2) := by decide +kernel
theorem dX1_flood_18 : decode cX1_flood 18 = .ok (.aload_n 0, 1) := by decide +kernel
theorem dX1_flood_19 : decode cX1_flood 19 = .ok (.getfield 27, 3) := by decide +kernel
theorem dX1_flood_22 : decode cX1_flood 22 = .ok (.arraylength, 1) := by decide +kernel
theorem dX1_flood_23 : decode cX1_flood 23 = .ok (.if_icmp .ge 29, 3) := by decide +kernel
theorem dX1_flood_26 : decode cX1_flood 26 = .ok (.iload 4, 2) := by decide +kernel
theorem dX1_flood_28 : decode cX1_flood 28 = .ok (.iload_n 3, 1) := by decide +kernel
theorem dX1_flood_29 : decode cX1_flood 29 = .ok (.if_icmp .ge 23, 3) := by decide +kernel
theorem dX1_flood_32 : decode cX1_flood 32 = .ok (.aload_n 0, 1) := by decide +kernel
theorem dX1_flood_33 : decode cX1_flood 33 = .ok (.iload_n 1, 1) := by decide +kernel
theorem dX1_flood_34 : decode cX1_flood 34 = .ok (.aload_n 0, 1) := by decide +kernel
theorem dX1_flood_35 : decode cX1_flood 35 = .ok (.getfield 27, 3) := by decide +kernel
theorem dX1_flood_38 : decode cX1_flood 38 = .ok (.iload 4, 2) := by decide +kernel
theorem dX1_flood_40 : decode cX1_flood 40 = .ok (.iaload, 1) := by decide +kernel
theorem dX1_flood_41 : decode cX1_flood 41 = .ok (.iload_n 3, 1) := by decide +kernel
theorem dX1_flood_42 : decode cX1_flood 42 = .ok (.invokevirtual 163, 3) := by decide +kernel
theorem dX1_flood_45 : decode cX1_flood 45 = .ok (.istore_n 3, 1) := by decide +kernel
theorem dX1_flood_46 : decode cX1_flood 46 = .ok (.iinc 4 1, 3) := by decide +kernel
theorem dX1_flood_49 : decode cX1_flood 49 = .ok (.goto (-33), 3) := by decide +kernel
theorem dX1_flood_52 : decode cX1_flood 52 = .ok (.iload_n 3, 1) := by decide +kernel
theorem dX1_flood_53 : decode cX1_flood 53 = .ok (.ireturn, 1) := by decide +kernel
set_option maxRecDepth 20000 in
theorem ggX1_floodOn_X1_valueAt : GoodIn wsX1_floodOn wsX1_valueAt := goodIn_r _ [6] (by decide +kernel) (by decide +kernel)
set_option maxRecDepth 20000 in
theorem gX1_floodOn_X1_valueAt : GoodIn wsX1_floodOn (va_wsS RX1 131 yX1_valueAt wsX1_valueAt) := goodIn_app (goodIn_of _ (by decide +kernel)) ggX1_floodOn_X1_valueAt
set_option maxRecDepth 20000 in
theorem ggX1_floodOn_X0_neighbour : GoodIn wsX1_floodOn wsX0_neighbour := goodIn_r _ [11, 12, 13, 14, 4, 5, 6, 42, 43] (by decide +kernel) (by decide +kernel)
set_option maxRecDepth 20000 in
theorem gX1_floodOn_X0_neighbour : GoodIn wsX1_floodOn (wsV RX1 49 RX0 yX0_neighbour wsX0_neighbour) := goodIn_app (goodIn_of _ (by decide +kernel)) ggX1_floodOn_X0_neighbour
set_option maxRecDepth 20000 in
theorem ggX1_floodOn_X1_startsPiece : GoodIn wsX1_floodOn wsX1_startsPiece := goodIn_r _ [18, 19, 20, 21, 5, 22, 23, 24, 25, 26, 27, 1, 3, 4, 6, 37, 38, 39, 40, 41] (by decide +kernel) (by decide +kernel)
set_option maxRecDepth 20000 in
theorem gX1_floodOn_X1_startsPiece : GoodIn wsX1_floodOn (wsV RX1 122 RX1 yX1_startsPiece wsX1_startsPiece) := goodIn_app (goodIn_of _ (by decide +kernel)) ggX1_floodOn_X1_startsPiece
set_option maxRecDepth 20000 in
theorem ggX1_floodOn_X1_mark : GoodIn wsX1_floodOn wsX1_mark := goodIn_r _ [31, 1, 37, 38, 39, 40, 41] (by decide +kernel) (by decide +kernel)
set_option maxRecDepth 20000 in
theorem gX1_floodOn_X1_mark : GoodIn wsX1_floodOn (wsV RX1 145 RX1 yX1_mark wsX1_mark) := goodIn_app (goodIn_of _ (by decide +kernel)) ggX1_floodOn_X1_mark
set_option maxRecDepth 20000 in
theorem ggX1_floodOn_X1_enqueue : GoodIn wsX1_floodOn wsX1_enqueue := goodIn_r _ [35, 36, 37, 38, 39, 40, 41] (by decide +kernel) (by decide +kernel)
set_option maxRecDepth 20000 in
theorem gX1_floodOn_X1_enqueue : GoodIn wsX1_floodOn (wsV RX1 160 RX1 yX1_enqueue wsX1_enqueue) := goodIn_app (goodIn_of _ (by decide +kernel)) ggX1_floodOn_X1_enqueue
theorem dX1_floodOn_0 : decode cX1_floodOn 0 = .ok (.iload_n 3, 1) := by decide +kernel
theorem dX1_floodOn_1 : decode cX1_floodOn 1 = .ok (.istore 4, 2) := by decide +kernel
theorem dX1_floodOn_3 : decode cX1_floodOn 3 = .ok (.aload_n 0, 1) := by decide +kernel
theorem dX1_floodOn_4 : decode cX1_floodOn 4 = .ok (.getfield 24, 3) := by decide +kernel
theorem dX1_floodOn_7 : decode cX1_floodOn 7 = .ok (.iload_n 2, 1) := by decide +kernel
theorem dX1_floodOn_8 : decode cX1_floodOn 8 = .ok (.invokestatic 131, 3) := by decide +kernel
theorem dX1_floodOn_11 : decode cX1_floodOn 11 = .ok (.iconst 1, 1) := by decide +kernel
theorem dX1_floodOn_12 : decode cX1_floodOn 12 = .ok (.iadd, 1) := by decide +kernel
theorem dX1_floodOn_13 : decode cX1_floodOn 13 = .ok (.istore 5, 2) := by decide +kernel
theorem dX1_floodOn_15 : decode cX1_floodOn 15 = .ok (.iconst 1, 1) := by decide +kernel
theorem dX1_floodOn_16 : decode cX1_floodOn 16 = .ok (.istore 6, 2) := by decide +kernel
theorem dX1_floodOn_18 : decode cX1_floodOn 18 = .ok (.iload 6, 2) := by decide +kernel
theorem dX1_floodOn_20 : decode cX1_floodOn 20 = .ok (.bipush 6, 2) := by decide +kernel
theorem dX1_floodOn_22 : decode cX1_floodOn 22 = .ok (.if_icmp .gt 49, 3) := by decide +kernel
theorem dX1_floodOn_25 : decode cX1_floodOn 25 = .ok (.aload_n 0, 1) := by decide +kernel
theorem dX1_floodOn_26 : decode cX1_floodOn 26 = .ok (.getfield 10, 3) := by decide +kernel
theorem dX1_floodOn_29 : decode cX1_floodOn 29 = .ok (.iload_n 2, 1) := by decide +kernel
theorem dX1_floodOn_30 : decode cX1_floodOn 30 = .ok (.iload 6, 2) := by decide +kernel
theorem dX1_floodOn_32 : decode cX1_floodOn 32 = .ok (.invokevirtual 49, 3) := by decide +kernel
theorem dX1_floodOn_35 : decode cX1_floodOn 35 = .ok (.istore 7, 2) := by decide +kernel
theorem dX1_floodOn_37 : decode cX1_floodOn 37 = .ok (.aload_n 0, 1) := by decide +kernel
theorem dX1_floodOn_38 : decode cX1_floodOn 38 = .ok (.iload_n 1, 1) := by decide +kernel
theorem dX1_floodOn_39 : decode cX1_floodOn 39 = .ok (.iload 7, 2) := by decide +kernel
theorem dX1_floodOn_41 : decode cX1_floodOn 41 = .ok (.invokevirtual 122, 3) := by decide +kernel
theorem dX1_floodOn_44 : decode cX1_floodOn 44 = .ok (.ifCond .eq 21, 3) := by decide +kernel
theorem dX1_floodOn_47 : decode cX1_floodOn 47 = .ok (.aload_n 0, 1) := by decide +kernel
theorem dX1_floodOn_48 : decode cX1_floodOn 48 = .ok (.iload 7, 2) := by decide +kernel
theorem dX1_floodOn_50 : decode cX1_floodOn 50 = .ok (.iload 5, 2) := by decide +kernel
theorem dX1_floodOn_52 : decode cX1_floodOn 52 = .ok (.invokevirtual 145, 3) := by decide +kernel
theorem dX1_floodOn_55 : decode cX1_floodOn 55 = .ok (.aload_n 0, 1) := by decide +kernel
theorem dX1_floodOn_56 : decode cX1_floodOn 56 = .ok (.iload 7, 2) := by decide +kernel
theorem dX1_floodOn_58 : decode cX1_floodOn 58 = .ok (.iload 4, 2) := by decide +kernel
theorem dX1_floodOn_60 : decode cX1_floodOn 60 = .ok (.invokevirtual 160, 3) := by decide +kernel
theorem dX1_floodOn_63 : decode cX1_floodOn 63 = .ok (.istore 4, 2) := by decide +kernel
theorem dX1_floodOn_65 : decode cX1_floodOn 65 = .ok (.iinc 6 1, 3) := by decide +kernel
theorem dX1_floodOn_68 : decode cX1_floodOn 68 = .ok (.goto (-50), 3) := by decide +kernel
theorem dX1_floodOn_71 : decode cX1_floodOn 71 = .ok (.iload 4, 2) := by decide +kernel
theorem dX1_floodOn_73 : decode cX1_floodOn 73 = .ok (.ireturn, 1) := by decide +kernel
theorem dX1_enqueue_0 : decode cX1_enqueue 0 = .ok (.iload_n 2, 1) := by decide +kernel
theorem dX1_enqueue_1 : decode cX1_enqueue 1 = .ok (.ifCond .lt 12, 3) := by decide +kernel
theorem dX1_enqueue_4 : decode cX1_enqueue 4 = .ok (.iload_n 2, 1) := by decide +kernel
theorem dX1_enqueue_5 : decode cX1_enqueue 5 = .ok (.aload_n 0, 1) := by decide +kernel
theorem dX1_enqueue_6 : decode cX1_enqueue 6 = .ok (.getfield 27, 3) := by decide +kernel
theorem dX1_enqueue_9 : decode cX1_enqueue 9 = .ok (.arraylength, 1) := by decide +kernel
theorem dX1_enqueue_10 : decode cX1_enqueue 10 = .ok (.if_icmp .lt 5, 3) := by decide +kernel
theorem dX1_enqueue_13 : decode cX1_enqueue 13 = .ok (.iload_n 2, 1) := by decide +kernel
theorem dX1_enqueue_14 : decode cX1_enqueue 14 = .ok (.ireturn, 1) := by decide +kernel
theorem dX1_enqueue_15 : decode cX1_enqueue 15 = .ok (.aload_n 0, 1) := by decide +kernel
theorem dX1_enqueue_16 : decode cX1_enqueue 16 = .ok (.getfield 27, 3) := by decide +kernel
theorem dX1_enqueue_19 : decode cX1_enqueue 19 = .ok (.iload_n 2, 1) := by decide +kernel
theorem dX1_enqueue_20 : decode cX1_enqueue 20 = .ok (.iload_n 1, 1) := by decide +kernel
theorem dX1_enqueue_21 : decode cX1_enqueue 21 = .ok (.iastore, 1) := by decide +kernel
theorem dX1_enqueue_22 : decode cX1_enqueue 22 = .ok (.iload_n 2, 1) := by decide +kernel
theorem dX1_enqueue_23 : decode cX1_enqueue 23 = .ok (.iconst 1, 1) := by decide +kernel
theorem dX1_enqueue_24 : decode cX1_enqueue 24 = .ok (.iadd, 1) := by decide +kernel
theorem dX1_enqueue_25 : decode cX1_enqueue 25 = .ok (.ireturn, 1) := by decide +kernel
theorem dJ9_abs_0f7a4_0 : decode cJ9_abs_0f7a4 0 = .ok (.iload_n 0, 1) := by decide +kernel
theorem dJ9_abs_0f7a4_1 : decode cJ9_abs_0f7a4 1 = .ok (.ifCond .ge 8, 3) := by decide +kernel
theorem dJ9_abs_0f7a4_4 : decode cJ9_abs_0f7a4 4 = .ok (.iload_n 0, 1) := by decide +kernel
theorem dJ9_abs_0f7a4_5 : decode cJ9_abs_0f7a4 5 = .ok (.ineg, 1) := by decide +kernel
theorem dJ9_abs_0f7a4_6 : decode cJ9_abs_0f7a4 6 = .ok (.goto 4, 3) := by decide +kernel
theorem dJ9_abs_0f7a4_9 : decode cJ9_abs_0f7a4 9 = .ok (.iload_n 0, 1) := by decide +kernel
theorem dJ9_abs_0f7a4_10 : decode cJ9_abs_0f7a4 10 = .ok (.ireturn, 1) := by decide +kernel
theorem dJ9_max_7cf53_0 : decode cJ9_max_7cf53 0 = .ok (.iload_n 0, 1) := by decide +kernel
theorem dJ9_max_7cf53_1 : decode cJ9_max_7cf53 1 = .ok (.iload_n 1, 1) := by decide +kernel
theorem dJ9_max_7cf53_2 : decode cJ9_max_7cf53 2 = .ok (.if_icmp .lt 7, 3) := by decide +kernel
theorem dJ9_max_7cf53_5 : decode cJ9_max_7cf53 5 = .ok (.iload_n 0, 1) := by decide +kernel
theorem dJ9_max_7cf53_6 : decode cJ9_max_7cf53 6 = .ok (.goto 4, 3) := by decide +kernel
theorem dJ9_max_7cf53_9 : decode cJ9_max_7cf53 9 = .ok (.iload_n 1, 1) := by decide +kernel
theorem dJ9_max_7cf53_10 : decode cJ9_max_7cf53 10 = .ok (.ireturn, 1) := by decide +kernel
theorem dJ7_fill_53178_0 : decode cJ7_fill_53178 0 = .ok (.iconst 0, 1) := by decide +kernel
theorem dJ7_fill_53178_1 : decode cJ7_fill_53178 1 = .ok (.istore_n 2, 1) := by decide +kernel
theorem dJ7_fill_53178_2 : decode cJ7_fill_53178 2 = .ok (.aload_n 0, 1) := by decide +kernel
theorem dJ7_fill_53178_3 : decode cJ7_fill_53178 3 = .ok (.arraylength, 1) := by decide +kernel
theorem dJ7_fill_53178_4 : decode cJ7_fill_53178 4 = .ok (.istore_n 3, 1) := by decide +kernel
theorem dJ7_fill_53178_5 : decode cJ7_fill_53178 5 = .ok (.iload_n 2, 1) := by decide +kernel
theorem dJ7_fill_53178_6 : decode cJ7_fill_53178 6 = .ok (.iload_n 3, 1) := by decide +kernel
theorem dJ7_fill_53178_7 : decode cJ7_fill_53178 7 = .ok (.if_icmp .ge 13, 3) := by decide +kernel
theorem dJ7_fill_53178_10 : decode cJ7_fill_53178 10 = .ok (.aload_n 0, 1) := by decide +kernel
theorem dJ7_fill_53178_11 : decode cJ7_fill_53178 11 = .ok (.iload_n 2, 1) := by decide +kernel
theorem dJ7_fill_53178_12 : decode cJ7_fill_53178 12 = .ok (.iload_n 1, 1) := by decide +kernel
theorem dJ7_fill_53178_13 : decode cJ7_fill_53178 13 = .ok (.iastore, 1) := by decide +kernel
theorem dJ7_fill_53178_14 : decode cJ7_fill_53178 14 = .ok (.iinc 2 1, 3) := by decide +kernel
theorem dJ7_fill_53178_17 : decode cJ7_fill_53178 17 = .ok (.goto (-12), 3) := by decide +kernel
theorem dJ7_fill_53178_20 : decode cJ7_fill_53178 20 = .ok (.return_, 1) := by decide +kernel
end
section
set_option maxRecDepth 20000 in
theorem ggX2_init_X2_sideA : GoodIn wsX2_init wsX2_sideA := goodIn_r _ [21] (by decide +kernel) (by decide +kernel)
set_option maxRecDepth 20000 in
theorem gX2_init_X2_sideA : GoodIn wsX2_init (va_wsS RX2 47 yX2_sideA wsX2_sideA) := goodIn_app (goodIn_of _ (by decide +kernel)) ggX2_init_X2_sideA
set_option maxRecDepth 20000 in
theorem ggX2_init_X2_sideB : GoodIn wsX2_init wsX2_sideB := goodIn_r _ [24] (by decide +kernel) (by decide +kernel)
set_option maxRecDepth 20000 in
theorem gX2_init_X2_sideB : GoodIn wsX2_init (va_wsS RX2 51 yX2_sideB wsX2_sideB) := goodIn_app (goodIn_of _ (by decide +kernel)) ggX2_init_X2_sideB
theorem dX2_init_0 : decode cX2_init 0 = .ok (.aload_n 0, 1) := by decide +kernel
theorem dX2_init_1 : decode cX2_init 1 = .ok (.invokespecial 1, 3) := by decide +kernel
theorem dX2_init_4 : decode cX2_init 4 = .ok (.aload_n 0, 1) := by decide +kernel
theorem dX2_init_5 : decode cX2_init 5 = .ok (.sipush 2401, 3) := by decide +kernel
theorem dX2_init_8 : decode cX2_init 8 = .ok (.newarray .int, 2) := by decide +kernel
theorem dX2_init_10 : decode cX2_init 10 = .ok (.putfield 7, 3) := by decide +kernel
theorem dX2_init_13 : decode cX2_init 13 = .ok (.aload_n 0, 1) := by decide +kernel
theorem dX2_init_14 : decode cX2_init 14 = .ok (.sipush 2401, 3) := by decide +kernel
theorem dX2_init_17 : decode cX2_init 17 = .ok (.newarray .int, 2) := by decide +kernel
theorem dX2_init_19 : decode cX2_init 19 = .ok (.putfield 13, 3) := by decide +kernel
theorem dX2_init_22 : decode cX2_init 22 = .ok (.aload_n 0, 1) := by decide +kernel
theorem dX2_init_23 : decode cX2_init 23 = .ok (.sipush 14641, 3) := by decide +kernel
theorem dX2_init_26 : decode cX2_init 26 = .ok (.newarray .int, 2) := by decide +kernel
theorem dX2_init_28 : decode cX2_init 28 = .ok (.putfield 16, 3) := by decide +kernel
theorem dX2_init_31 : decode cX2_init 31 = .ok (.aload_n 0, 1) := by decide +kernel
theorem dX2_init_32 : decode cX2_init 32 = .ok (.sipush 28812, 3) := by decide +kernel
theorem dX2_init_35 : decode cX2_init 35 = .ok (.newarray .boolean, 2) := by decide +kernel
theorem dX2_init_37 : decode cX2_init 37 = .ok (.putfield 19, 3) := by decide +kernel
theorem dX2_init_40 : decode cX2_init 40 = .ok (.aload_n 0, 1) := by decide +kernel
theorem dX2_init_41 : decode cX2_init 41 = .ok (.iconst 2, 1) := by decide +kernel
theorem dX2_init_42 : decode cX2_init 42 = .ok (.newarray .boolean, 2) := by decide +kernel
theorem dX2_init_44 : decode cX2_init 44 = .ok (.putfield 23, 3) := by decide +kernel
theorem dX2_init_47 : decode cX2_init 47 = .ok (.aload_n 0, 1) := by decide +kernel
theorem dX2_init_48 : decode cX2_init 48 = .ok (.sipush 2401, 3) := by decide +kernel
theorem dX2_init_51 : decode cX2_init 51 = .ok (.newarray .boolean, 2) := by decide +kernel
theorem dX2_init_53 : decode cX2_init 53 = .ok (.putfield 26, 3) := by decide +kernel
theorem dX2_init_56 : decode cX2_init 56 = .ok (.aload_n 0, 1) := by decide +kernel
theorem dX2_init_57 : decode cX2_init 57 = .ok (.sipush 2401, 3) := by decide +kernel
theorem dX2_init_60 : decode cX2_init 60 = .ok (.newarray .boolean, 2) := by decide +kernel
theorem dX2_init_62 : decode cX2_init 62 = .ok (.putfield 29, 3) := by decide +kernel
theorem dX2_init_65 : decode cX2_init 65 = .ok (.aload_n 0, 1) := by decide +kernel
theorem dX2_init_66 : decode cX2_init 66 = .ok (.sipush 2401, 3) := by decide +kernel
theorem dX2_init_69 : decode cX2_init 69 = .ok (.newarray .int, 2) := by decide +kernel
theorem dX2_init_71 : decode cX2_init 71 = .ok (.putfield 32, 3) := by decide +kernel
theorem dX2_init_74 : decode cX2_init 74 = .ok (.aload_n 0, 1) := by decide +kernel
theorem dX2_init_75 : decode cX2_init 75 = .ok (.sipush 2401, 3) := by decide +kernel
theorem dX2_init_78 : decode cX2_init 78 = .ok (.newarray .int, 2) := by decide +kernel
theorem dX2_init_80 : decode cX2_init 80 = .ok (.putfield 35, 3) := by decide +kernel
theorem dX2_init_83 : decode cX2_init 83 = .ok (.aload_n 0, 1) := by decide +kernel
theorem dX2_init_84 : decode cX2_init 84 = .ok (.sipush 2401, 3) := by decide +kernel
theorem dX2_init_87 : decode cX2_init 87 = .ok (.newarray .int, 2) := by decide +kernel
theorem dX2_init_89 : decode cX2_init 89 = .ok (.putfield 38, 3) := by decide +kernel
theorem dX2_init_92 : decode cX2_init 92 = .ok (.aload_n 0, 1) := by decide +kernel
theorem dX2_init_93 : decode cX2_init 93 = .ok (.sipush 2401, 3) := by decide +kernel
theorem dX2_init_96 : decode cX2_init 96 = .ok (.newarray .int, 2) := by decide +kernel
theorem dX2_init_98 : decode cX2_init 98 = .ok (.putfield 41, 3) := by decide +kernel
theorem dX2_init_101 : decode cX2_init 101 = .ok (.aload_n 0, 1) := by decide +kernel
theorem dX2_init_102 : decode cX2_init 102 = .ok (.sipush 2401, 3) := by decide +kernel
theorem dX2_init_105 : decode cX2_init 105 = .ok (.newarray .int, 2) := by decide +kernel
theorem dX2_init_107 : decode cX2_init 107 = .ok (.putfield 44, 3) := by decide +kernel
theorem dX2_init_110 : decode cX2_init 110 = .ok (.iconst 0, 1) := by decide +kernel
theorem dX2_init_111 : decode cX2_init 111 = .ok (.istore_n 1, 1) := by decide +kernel
theorem dX2_init_112 : decode cX2_init 112 = .ok (.iload_n 1, 1) := by decide +kernel
theorem dX2_init_113 : decode cX2_init 113 = .ok (.sipush 2401, 3) := by decide +kernel
theorem dX2_init_116 : decode cX2_init 116 = .ok (.if_icmp .ge 104, 3) := by decide +kernel
theorem dX2_init_119 : decode cX2_init 119 = .ok (.iconst 0, 1) := by decide +kernel
theorem dX2_init_120 : decode cX2_init 120 = .ok (.istore_n 2, 1) := by decide +kernel
theorem dX2_init_121 : decode cX2_init 121 = .ok (.iconst 0, 1) := by decide +kernel
theorem dX2_init_122 : decode cX2_init 122 = .ok (.istore_n 3, 1) := by decide +kernel
theorem dX2_init_123 : decode cX2_init 123 = .ok (.sipush 343, 3) := by decide +kernel
theorem dX2_init_126 : decode cX2_init 126 = .ok (.istore 4, 2) := by decide +kernel
theorem dX2_init_128 : decode cX2_init 128 = .ok (.iload 4, 2) := by decide +kernel
theorem dX2_init_130 : decode cX2_init 130 = .ok (.ifCond .le 50, 3) := by decide +kernel
theorem dX2_init_133 : decode cX2_init 133 = .ok (.iload_n 1, 1) := by decide +kernel
theorem dX2_init_134 : decode cX2_init 134 = .ok (.iload 4, 2) := by decide +kernel
theorem dX2_init_136 : decode cX2_init 136 = .ok (.idiv, 1) := by decide +kernel
theorem dX2_init_137 : decode cX2_init 137 = .ok (.bipush 7, 2) := by decide +kernel
theorem dX2_init_139 : decode cX2_init 139 = .ok (.irem, 1) := by decide +kernel
theorem dX2_init_140 : decode cX2_init 140 = .ok (.istore 5, 2) := by decide +kernel
theorem dX2_init_142 : decode cX2_init 142 = .ok (.iload_n 2, 1) := by decide +kernel
theorem dX2_init_143 : decode cX2_init 143 = .ok (.istore 6, 2) := by decide +kernel
theorem dX2_init_145 : decode cX2_init 145 = .ok (.iconst 2, 1) := by decide +kernel
theorem dX2_init_146 : decode cX2_init 146 = .ok (.iload_n 2, 1) := by decide +kernel
theorem dX2_init_147 : decode cX2_init 147 = .ok (.imul, 1) := by decide +kernel
theorem dX2_init_148 : decode cX2_init 148 = .ok (.iload_n 3, 1) := by decide +kernel
theorem dX2_init_149 : decode cX2_init 149 = .ok (.isub, 1) := by decide +kernel
theorem dX2_init_150 : decode cX2_init 150 = .ok (.iload 5, 2) := by decide +kernel
theorem dX2_init_152 : decode cX2_init 152 = .ok (.invokestatic 47, 3) := by decide +kernel
theorem dX2_init_155 : decode cX2_init 155 = .ok (.iadd, 1) := by decide +kernel
theorem dX2_init_156 : decode cX2_init 156 = .ok (.istore_n 2, 1) := by decide +kernel
theorem dX2_init_157 : decode cX2_init 157 = .ok (.iload 6, 2) := by decide +kernel
theorem dX2_init_159 : decode cX2_init 159 = .ok (.iconst 3, 1) := by decide +kernel
theorem dX2_init_160 : decode cX2_init 160 = .ok (.iload_n 3, 1) := by decide +kernel
theorem dX2_init_161 : decode cX2_init 161 = .ok (.imul, 1) := by decide +kernel
theorem dX2_init_162 : decode cX2_init 162 = .ok (.iadd, 1) := by decide +kernel
theorem dX2_init_163 : decode cX2_init 163 = .ok (.iload 5, 2) := by decide +kernel
theorem dX2_init_165 : decode cX2_init 165 = .ok (.invokestatic 51, 3) := by decide +kernel
theorem dX2_init_168 : decode cX2_init 168 = .ok (.iadd, 1) := by decide +kernel
theorem dX2_init_169 : decode cX2_init 169 = .ok (.istore_n 3, 1) := by decide +kernel
theorem dX2_init_170 : decode cX2_init 170 = .ok (.iload 4, 2) := by decide +kernel
theorem dX2_init_172 : decode cX2_init 172 = .ok (.bipush 7, 2) := by decide +kernel
theorem dX2_init_174 : decode cX2_init 174 = .ok (.idiv, 1) := by decide +kernel
theorem dX2_init_175 : decode cX2_init 175 = .ok (.istore 4, 2) := by decide +kernel
theorem dX2_init_177 : decode cX2_init 177 = .ok (.goto (-49), 3) := by decide +kernel
theorem dX2_init_180 : decode cX2_init 180 = .ok (.aload_n 0, 1) := by decide +kernel
theorem dX2_init_181 : decode cX2_init 181 = .ok (.getfield 7, 3) := by decide +kernel
theorem dX2_init_184 : decode cX2_init 184 = .ok (.iload_n 1, 1) := by decide +kernel
theorem dX2_init_185 : decode cX2_init 185 = .ok (.iload_n 2, 1) := by decide +kernel
theorem dX2_init_186 : decode cX2_init 186 = .ok (.iastore, 1) := by decide +kernel
theorem dX2_init_187 : decode cX2_init 187 = .ok (.aload_n 0, 1) := by decide +kernel
theorem dX2_init_188 : decode cX2_init 188 = .ok (.getfield 13, 3) := by decide +kernel
theorem dX2_init_191 : decode cX2_init 191 = .ok (.iload_n 1, 1) := by decide +kernel
theorem dX2_init_192 : decode cX2_init 192 = .ok (.iload_n 3, 1) := by decide +kernel
theorem dX2_init_193 : decode cX2_init 193 = .ok (.iastore, 1) := by decide +kernel
theorem dX2_init_194 : decode cX2_init 194 = .ok (.aload_n 0, 1) := by decide +kernel
theorem dX2_init_195 : decode cX2_init 195 = .ok (.getfield 16, 3) := by decide +kernel
theorem dX2_init_198 : decode cX2_init 198 = .ok (.bipush 121, 2) := by decide +kernel
theorem dX2_init_200 : decode cX2_init 200 = .ok (.iload_n 2, 1) := by decide +kernel
theorem dX2_init_201 : decode cX2_init 201 = .ok (.bipush 60, 2) := by decide +kernel
theorem dX2_init_203 : decode cX2_init 203 = .ok (.iadd, 1) := by decide +kernel
theorem dX2_init_204 : decode cX2_init 204 = .ok (.imul, 1) := by decide +kernel
theorem dX2_init_205 : decode cX2_init 205 = .ok (.iload_n 3, 1) := by decide +kernel
theorem dX2_init_206 : decode cX2_init 206 = .ok (.iadd, 1) := by decide +kernel
theorem dX2_init_207 : decode cX2_init 207 = .ok (.bipush 60, 2) := by decide +kernel
theorem dX2_init_209 : decode cX2_init 209 = .ok (.iadd, 1) := by decide +kernel
theorem dX2_init_210 : decode cX2_init 210 = .ok (.iload_n 1, 1) := by decide +kernel
theorem dX2_init_211 : decode cX2_init 211 = .ok (.iconst 1, 1) := by decide +kernel
theorem dX2_init_212 : decode cX2_init 212 = .ok (.iadd, 1) := by decide +kernel
theorem dX2_init_213 : decode cX2_init 213 = .ok (.iastore, 1) := by decide +kernel
theorem dX2_init_214 : decode cX2_init 214 = .ok (.iinc 1 1, 3) := by decide +kernel
theorem dX2_init_217 : decode cX2_init 217 = .ok (.goto (-105), 3) := by decide +kernel
theorem dX2_init_220 : decode cX2_init 220 = .ok (.return_, 1) := by decide +kernel
theorem dX2_in_0 : decode cX2_in 0 = .ok (.iload_n 0, 1) := by decide +kernel
theorem dX2_in_1 : decode cX2_in 1 = .ok (.iload_n 1, 1) := by decide +kernel
theorem dX2_in_2 : decode cX2_in 2 = .ok (.if_icmp .lt 12, 3) := by decide +kernel
theorem dX2_in_5 : decode cX2_in 5 = .ok (.iload_n 0, 1) := by decide +kernel
theorem dX2_in_6 : decode cX2_in 6 = .ok (.iload_n 2, 1) := by decide +kernel
theorem dX2_in_7 : decode cX2_in 7 = .ok (.if_icmp .gt 7, 3) := by decide +kernel
theorem dX2_in_10 : decode cX2_in 10 = .ok (.iconst 1, 1) := by decide +kernel
theorem dX2_in_11 : decode cX2_in 11 = .ok (.goto 4, 3) := by decide +kernel
theorem dX2_in_14 : decode cX2_in 14 = .ok (.iconst 0, 1) := by decide +kernel
theorem dX2_in_15 : decode cX2_in 15 = .ok (.ireturn, 1) := by decide +kernel
set_option maxRecDepth 20000 in
theorem ggX2_isKey_X2_in : GoodIn wsX2_isKey wsX2_in := goodIn_r _ [4] (by decide +kernel) (by decide +kernel)
set_option maxRecDepth 20000 in
theorem gX2_isKey_X2_in : GoodIn wsX2_isKey (va_wsS RX2 54 yX2_in wsX2_in) := goodIn_app (goodIn_of _ (by decide +kernel)) ggX2_isKey_X2_in
theorem dX2_isKey_0 : decode cX2_isKey 0 = .ok (.iload_n 0, 1) := by decide +kernel
theorem dX2_isKey_1 : decode cX2_isKey 1 = .ok (.iconst 0, 1) := by decide +kernel
theorem dX2_isKey_2 : decode cX2_isKey 2 = .ok (.sipush 2400, 3) := by decide +kernel
theorem dX2_isKey_5 : decode cX2_isKey 5 = .ok (.invokestatic 54, 3) := by decide +kernel
theorem dX2_isKey_8 : decode cX2_isKey 8 = .ok (.ireturn, 1) := by decide +kernel
set_option maxRecDepth 20000 in
theorem ggX2_isSlot_X2_in : GoodIn wsX2_isSlot wsX2_in := goodIn_r _ [4] (by decide +kernel) (by decide +kernel)
set_option maxRecDepth 20000 in
theorem gX2_isSlot_X2_in : GoodIn wsX2_isSlot (va_wsS RX2 54 yX2_in wsX2_in) := goodIn_app (goodIn_of _ (by decide +kernel)) ggX2_isSlot_X2_in
theorem dX2_isSlot_0 : decode cX2_isSlot 0 = .ok (.iload_n 0, 1) := by decide +kernel
theorem dX2_isSlot_1 : decode cX2_isSlot 1 = .ok (.iconst 0, 1) := by decide +kernel
theorem dX2_isSlot_2 : decode cX2_isSlot 2 = .ok (.iconst 3, 1) := by decide +kernel
theorem dX2_isSlot_3 : decode cX2_isSlot 3 = .ok (.invokestatic 54, 3) := by decide +kernel
theorem dX2_isSlot_6 : decode cX2_isSlot 6 = .ok (.ireturn, 1) := by decide +kernel
set_option maxRecDepth 20000 in
theorem ggX2_isLevel_X2_in : GoodIn wsX2_isLevel wsX2_in := goodIn_r _ [4] (by decide +kernel) (by decide +kernel)
set_option maxRecDepth 20000 in
theorem gX2_isLevel_X2_in : GoodIn wsX2_isLevel (va_wsS RX2 54 yX2_in wsX2_in) := goodIn_app (goodIn_of _ (by decide +kernel)) ggX2_isLevel_X2_in
theorem dX2_isLevel_0 : decode cX2_isLevel 0 = .ok (.iload_n 0, 1) := by decide +kernel
theorem dX2_isLevel_1 : decode cX2_isLevel 1 = .ok (.iconst 0, 1) := by decide +kernel
theorem dX2_isLevel_2 : decode cX2_isLevel 2 = .ok (.iconst 4, 1) := by decide +kernel
theorem dX2_isLevel_3 : decode cX2_isLevel 3 = .ok (.invokestatic 54, 3) := by decide +kernel
theorem dX2_isLevel_6 : decode cX2_isLevel 6 = .ok (.ireturn, 1) := by decide +kernel
theorem dX2_sideA_0 : decode cX2_sideA 0 = .ok (.iload_n 0, 1) := by decide +kernel
theorem dX2_sideA_1 : decode cX2_sideA 1 = .ok (.iconst 1, 1) := by decide +kernel
theorem dX2_sideA_2 : decode cX2_sideA 2 = .ok (.if_icmp .eq 9, 3) := by decide +kernel
theorem dX2_sideA_5 : decode cX2_sideA 5 = .ok (.iload_n 0, 1) := by decide +kernel
theorem dX2_sideA_6 : decode cX2_sideA 6 = .ok (.bipush 6, 2) := by decide +kernel
theorem dX2_sideA_8 : decode cX2_sideA 8 = .ok (.if_icmp .ne 7, 3) := by decide +kernel
theorem dX2_sideA_11 : decode cX2_sideA 11 = .ok (.iconst 1, 1) := by decide +kernel
theorem dX2_sideA_12 : decode cX2_sideA 12 = .ok (.goto 18, 3) := by decide +kernel
theorem dX2_sideA_15 : decode cX2_sideA 15 = .ok (.iload_n 0, 1) := by decide +kernel
theorem dX2_sideA_16 : decode cX2_sideA 16 = .ok (.iconst 3, 1) := by decide +kernel
theorem dX2_sideA_17 : decode cX2_sideA 17 = .ok (.if_icmp .eq 8, 3) := by decide +kernel
theorem dX2_sideA_20 : decode cX2_sideA 20 = .ok (.iload_n 0, 1) := by decide +kernel
theorem dX2_sideA_21 : decode cX2_sideA 21 = .ok (.iconst 4, 1) := by decide +kernel
theorem dX2_sideA_22 : decode cX2_sideA 22 = .ok (.if_icmp .ne 7, 3) := by decide +kernel
theorem dX2_sideA_25 : decode cX2_sideA 25 = .ok (.iconst (-1), 1) := by decide +kernel
theorem dX2_sideA_26 : decode cX2_sideA 26 = .ok (.goto 4, 3) := by decide +kernel
theorem dX2_sideA_29 : decode cX2_sideA 29 = .ok (.iconst 0, 1) := by decide +kernel
theorem dX2_sideA_30 : decode cX2_sideA 30 = .ok (.ireturn, 1) := by decide +kernel
theorem dX2_sideB_0 : decode cX2_sideB 0 = .ok (.iload_n 0, 1) := by decide +kernel
theorem dX2_sideB_1 : decode cX2_sideB 1 = .ok (.iconst 2, 1) := by decide +kernel
theorem dX2_sideB_2 : decode cX2_sideB 2 = .ok (.if_icmp .eq 8, 3) := by decide +kernel
theorem dX2_sideB_5 : decode cX2_sideB 5 = .ok (.iload_n 0, 1) := by decide +kernel
theorem dX2_sideB_6 : decode cX2_sideB 6 = .ok (.iconst 3, 1) := by decide +kernel
theorem dX2_sideB_7 : decode cX2_sideB 7 = .ok (.if_icmp .ne 7, 3) := by decide +kernel
theorem dX2_sideB_10 : decode cX2_sideB 10 = .ok (.iconst 1, 1) := by decide +kernel
theorem dX2_sideB_11 : decode cX2_sideB 11 = .ok (.goto 19, 3) := by decide +kernel
theorem dX2_sideB_14 : decode cX2_sideB 14 = .ok (.iload_n 0, 1) := by decide +kernel
theorem dX2_sideB_15 : decode cX2_sideB 15 = .ok (.iconst 5, 1) := by decide +kernel
theorem dX2_sideB_16 : decode cX2_sideB 16 = .ok (.if_icmp .eq 9, 3) := by decide +kernel
theorem dX2_sideB_19 : decode cX2_sideB 19 = .ok (.iload_n 0, 1) := by decide +kernel
theorem dX2_sideB_20 : decode cX2_sideB 20 = .ok (.bipush 6, 2) := by decide +kernel
theorem dX2_sideB_22 : decode cX2_sideB 22 = .ok (.if_icmp .ne 7, 3) := by decide +kernel
theorem dX2_sideB_25 : decode cX2_sideB 25 = .ok (.iconst (-1), 1) := by decide +kernel
theorem dX2_sideB_26 : decode cX2_sideB 26 = .ok (.goto 4, 3) := by decide +kernel
theorem dX2_sideB_29 : decode cX2_sideB 29 = .ok (.iconst 0, 1) := by decide +kernel
theorem dX2_sideB_30 : decode cX2_sideB 30 = .ok (.ireturn, 1) := by decide +kernel
theorem dX2_size_0 : decode cX2_size 0 = .ok (.iload_n 0, 1) := by decide +kernel
theorem dX2_size_1 : decode cX2_size 1 = .ok (.ifCond .ge 8, 3) := by decide +kernel
theorem dX2_size_4 : decode cX2_size 4 = .ok (.iload_n 0, 1) := by decide +kernel
theorem dX2_size_5 : decode cX2_size 5 = .ok (.ineg, 1) := by decide +kernel
theorem dX2_size_6 : decode cX2_size 6 = .ok (.goto 4, 3) := by decide +kernel
theorem dX2_size_9 : decode cX2_size 9 = .ok (.iload_n 0, 1) := by decide +kernel
theorem dX2_size_10 : decode cX2_size 10 = .ok (.ireturn, 1) := by decide +kernel
set_option maxRecDepth 20000 in
theorem ggX2_keyAt_X2_in : GoodIn wsX2_keyAt wsX2_in := goodIn_r _ [5] (by decide +kernel) (by decide +kernel)
set_option maxRecDepth 20000 in
theorem gX2_keyAt_X2_in : GoodIn wsX2_keyAt (va_wsS RX2 54 yX2_in wsX2_in) := goodIn_app (goodIn_of _ (by decide +kernel)) ggX2_keyAt_X2_in
theorem dX2_keyAt_0 : decode cX2_keyAt 0 = .ok (.iload_n 1, 1) := by decide +kernel
theorem dX2_keyAt_1 : decode cX2_keyAt 1 = .ok (.bipush (-60), 2) := by decide +kernel
theorem dX2_keyAt_3 : decode cX2_keyAt 3 = .ok (.bipush 60, 2) := by decide +kernel
theorem dX2_keyAt_5 : decode cX2_keyAt 5 = .ok (.invokestatic 54, 3) := by decide +kernel
theorem dX2_keyAt_8 : decode cX2_keyAt 8 = .ok (.ifCond .eq 14, 3) := by decide +kernel
theorem dX2_keyAt_11 : decode cX2_keyAt 11 = .ok (.iload_n 2, 1) := by decide +kernel
theorem dX2_keyAt_12 : decode cX2_keyAt 12 = .ok (.bipush (-60), 2) := by decide +kernel
theorem dX2_keyAt_14 : decode cX2_keyAt 14 = .ok (.bipush 60, 2) := by decide +kernel
theorem dX2_keyAt_16 : decode cX2_keyAt 16 = .ok (.invokestatic 54, 3) := by decide +kernel
theorem dX2_keyAt_19 : decode cX2_keyAt 19 = .ok (.ifCond .ne 6, 3) := by decide +kernel
theorem dX2_keyAt_22 : decode cX2_keyAt 22 = .ok (.bipush (-6), 2) := by decide +kernel
theorem dX2_keyAt_24 : decode cX2_keyAt 24 = .ok (.ireturn, 1) := by decide +kernel
theorem dX2_keyAt_25 : decode cX2_keyAt 25 = .ok (.aload_n 0, 1) := by decide +kernel
theorem dX2_keyAt_26 : decode cX2_keyAt 26 = .ok (.getfield 16, 3) := by decide +kernel
theorem dX2_keyAt_29 : decode cX2_keyAt 29 = .ok (.bipush 121, 2) := by decide +kernel
theorem dX2_keyAt_31 : decode cX2_keyAt 31 = .ok (.iload_n 1, 1) := by decide +kernel
theorem dX2_keyAt_32 : decode cX2_keyAt 32 = .ok (.bipush 60, 2) := by decide +kernel
theorem dX2_keyAt_34 : decode cX2_keyAt 34 = .ok (.iadd, 1) := by decide +kernel
theorem dX2_keyAt_35 : decode cX2_keyAt 35 = .ok (.imul, 1) := by decide +kernel
theorem dX2_keyAt_36 : decode cX2_keyAt 36 = .ok (.iload_n 2, 1) := by decide +kernel
theorem dX2_keyAt_37 : decode cX2_keyAt 37 = .ok (.iadd, 1) := by decide +kernel
theorem dX2_keyAt_38 : decode cX2_keyAt 38 = .ok (.bipush 60, 2) := by decide +kernel
theorem dX2_keyAt_40 : decode cX2_keyAt 40 = .ok (.iadd, 1) := by decide +kernel
theorem dX2_keyAt_41 : decode cX2_keyAt 41 = .ok (.iaload, 1) := by decide +kernel
theorem dX2_keyAt_42 : decode cX2_keyAt 42 = .ok (.istore_n 3, 1) := by decide +kernel
theorem dX2_keyAt_43 : decode cX2_keyAt 43 = .ok (.iload_n 3, 1) := by decide +kernel
theorem dX2_keyAt_44 : decode cX2_keyAt 44 = .ok (.ifCond .ne 8, 3) := by decide +kernel
theorem dX2_keyAt_47 : decode cX2_keyAt 47 = .ok (.bipush (-6), 2) := by decide +kernel
theorem dX2_keyAt_49 : decode cX2_keyAt 49 = .ok (.goto 6, 3) := by decide +kernel
theorem dX2_keyAt_52 : decode cX2_keyAt 52 = .ok (.iload_n 3, 1) := by decide +kernel
theorem dX2_keyAt_53 : decode cX2_keyAt 53 = .ok (.iconst 1, 1) := by decide +kernel
theorem dX2_keyAt_54 : decode cX2_keyAt 54 = .ok (.isub, 1) := by decide +kernel
theorem dX2_keyAt_55 : decode cX2_keyAt 55 = .ok (.ireturn, 1) := by decide +kernel
set_option maxRecDepth 20000 in
theorem ggX2_point_X2_isKey : GoodIn wsX2_point wsX2_isKey := goodIn_r _ [6, 7, 8, 5, 9] (by decide +kernel) (by decide +kernel)
set_option maxRecDepth 20000 in
theorem gX2_point_X2_isKey : GoodIn wsX2_point (va_wsS RX2 58 yX2_isKey wsX2_isKey) := goodIn_app (goodIn_of _ (by decide +kernel)) ggX2_point_X2_isKey
set_option maxRecDepth 20000 in
theorem ggX2_point_X2_in : GoodIn wsX2_point wsX2_in := goodIn_r _ [9] (by decide +kernel) (by decide +kernel)
set_option maxRecDepth 20000 in
theorem gX2_point_X2_in : GoodIn wsX2_point (va_wsS RX2 54 yX2_in wsX2_in) := goodIn_app (goodIn_of _ (by decide +kernel)) ggX2_point_X2_in
theorem dX2_point_0 : decode cX2_point 0 = .ok (.iload_n 1, 1) := by decide +kernel
theorem dX2_point_1 : decode cX2_point 1 = .ok (.invokestatic 58, 3) := by decide +kernel
theorem dX2_point_4 : decode cX2_point 4 = .ok (.ifCond .eq 12, 3) := by decide +kernel
theorem dX2_point_7 : decode cX2_point 7 = .ok (.iload_n 2, 1) := by decide +kernel
theorem dX2_point_8 : decode cX2_point 8 = .ok (.iconst 0, 1) := by decide +kernel
theorem dX2_point_9 : decode cX2_point 9 = .ok (.iconst 1, 1) := by decide +kernel
theorem dX2_point_10 : decode cX2_point 10 = .ok (.invokestatic 54, 3) := by decide +kernel
theorem dX2_point_13 : decode cX2_point 13 = .ok (.ifCond .ne 6, 3) := by decide +kernel
theorem dX2_point_16 : decode cX2_point 16 = .ok (.bipush (-2), 2) := by decide +kernel
theorem dX2_point_18 : decode cX2_point 18 = .ok (.ireturn, 1) := by decide +kernel
theorem dX2_point_19 : decode cX2_point 19 = .ok (.sipush 1000, 3) := by decide +kernel
theorem dX2_point_22 : decode cX2_point 22 = .ok (.iload_n 2, 1) := by decide +kernel
theorem dX2_point_23 : decode cX2_point 23 = .ok (.ifCond .ne 12, 3) := by decide +kernel
theorem dX2_point_26 : decode cX2_point 26 = .ok (.aload_n 0, 1) := by decide +kernel
theorem dX2_point_27 : decode cX2_point 27 = .ok (.getfield 7, 3) := by decide +kernel
theorem dX2_point_30 : decode cX2_point 30 = .ok (.iload_n 1, 1) := by decide +kernel
theorem dX2_point_31 : decode cX2_point 31 = .ok (.iaload, 1) := by decide +kernel
theorem dX2_point_32 : decode cX2_point 32 = .ok (.goto 9, 3) := by decide +kernel
theorem dX2_point_35 : decode cX2_point 35 = .ok (.aload_n 0, 1) := by decide +kernel
theorem dX2_point_36 : decode cX2_point 36 = .ok (.getfield 13, 3) := by decide +kernel
theorem dX2_point_39 : decode cX2_point 39 = .ok (.iload_n 1, 1) := by decide +kernel
theorem dX2_point_40 : decode cX2_point 40 = .ok (.iaload, 1) := by decide +kernel
theorem dX2_point_41 : decode cX2_point 41 = .ok (.iadd, 1) := by decide +kernel
theorem dX2_point_42 : decode cX2_point 42 = .ok (.ireturn, 1) := by decide +kernel
set_option maxRecDepth 20000 in
theorem ggX2_key_X2_in : GoodIn wsX2_key wsX2_in := goodIn_r _ [4] (by decide +kernel) (by decide +kernel)
set_option maxRecDepth 20000 in
theorem gX2_key_X2_in : GoodIn wsX2_key (va_wsS RX2 54 yX2_in wsX2_in) := goodIn_app (goodIn_of _ (by decide +kernel)) ggX2_key_X2_in
set_option maxRecDepth 20000 in
theorem ggX2_key_X2_keyAt : GoodIn wsX2_key wsX2_keyAt := goodIn_r _ [8, 9, 1, 2, 3, 4, 10, 11, 12, 13, 14, 15, 16, 17, 18, 19, 20, 21, 22, 23, 24] (by decide +kernel) (by decide +kernel)
set_option maxRecDepth 20000 in
theorem gX2_key_X2_keyAt : GoodIn wsX2_key (wsV RX2 62 RX2 yX2_keyAt wsX2_keyAt) := goodIn_app (goodIn_of _ (by decide +kernel)) ggX2_key_X2_keyAt
theorem dX2_key_0 : decode cX2_key 0 = .ok (.iload_n 1, 1) := by decide +kernel
theorem dX2_key_1 : decode cX2_key 1 = .ok (.bipush (-100), 2) := by decide +kernel
theorem dX2_key_3 : decode cX2_key 3 = .ok (.bipush 100, 2) := by decide +kernel
theorem dX2_key_5 : decode cX2_key 5 = .ok (.invokestatic 54, 3) := by decide +kernel
theorem dX2_key_8 : decode cX2_key 8 = .ok (.ifCond .eq 23, 3) := by decide +kernel
theorem dX2_key_11 : decode cX2_key 11 = .ok (.iload_n 2, 1) := by decide +kernel
theorem dX2_key_12 : decode cX2_key 12 = .ok (.bipush (-100), 2) := by decide +kernel
theorem dX2_key_14 : decode cX2_key 14 = .ok (.bipush 100, 2) := by decide +kernel
theorem dX2_key_16 : decode cX2_key 16 = .ok (.invokestatic 54, 3) := by decide +kernel
theorem dX2_key_19 : decode cX2_key 19 = .ok (.ifCond .eq 12, 3) := by decide +kernel
theorem dX2_key_22 : decode cX2_key 22 = .ok (.aload_n 0, 1) := by decide +kernel
theorem dX2_key_23 : decode cX2_key 23 = .ok (.iload_n 1, 1) := by decide +kernel
theorem dX2_key_24 : decode cX2_key 24 = .ok (.iload_n 2, 1) := by decide +kernel
theorem dX2_key_25 : decode cX2_key 25 = .ok (.invokevirtual 62, 3) := by decide +kernel
theorem dX2_key_28 : decode cX2_key 28 = .ok (.goto 5, 3) := by decide +kernel
theorem dX2_key_31 : decode cX2_key 31 = .ok (.bipush (-2), 2) := by decide +kernel
theorem dX2_key_33 : decode cX2_key 33 = .ok (.ireturn, 1) := by decide +kernel
set_option maxRecDepth 20000 in
theorem ggX2_nextOf_X2_sideA : GoodIn wsX2_nextOf wsX2_sideA := goodIn_r _ [6] (by decide +kernel) (by decide +kernel)
set_option maxRecDepth 20000 in
theorem gX2_nextOf_X2_sideA : GoodIn wsX2_nextOf (va_wsS RX2 47 yX2_sideA wsX2_sideA) := goodIn_app (goodIn_of _ (by decide +kernel)) ggX2_nextOf_X2_sideA
set_option maxRecDepth 20000 in
theorem ggX2_nextOf_X2_sideB : GoodIn wsX2_nextOf wsX2_sideB := goodIn_r _ [9] (by decide +kernel) (by decide +kernel)
set_option maxRecDepth 20000 in
theorem gX2_nextOf_X2_sideB : GoodIn wsX2_nextOf (va_wsS RX2 51 yX2_sideB wsX2_sideB) := goodIn_app (goodIn_of _ (by decide +kernel)) ggX2_nextOf_X2_sideB
set_option maxRecDepth 20000 in
theorem ggX2_nextOf_X2_keyAt : GoodIn wsX2_nextOf wsX2_keyAt := goodIn_r _ [13, 14, 15, 16, 5, 17, 18, 19, 20, 21, 22, 23, 24, 25, 26, 27, 28, 29, 30, 31, 32] (by decide +kernel) (by decide +kernel)
set_option maxRecDepth 20000 in
theorem gX2_nextOf_X2_keyAt : GoodIn wsX2_nextOf (wsV RX2 62 RX2 yX2_keyAt wsX2_keyAt) := goodIn_app (goodIn_of _ (by decide +kernel)) ggX2_nextOf_X2_keyAt
theorem dX2_nextOf_0 : decode cX2_nextOf 0 = .ok (.aload_n 0, 1) := by decide +kernel
theorem dX2_nextOf_1 : decode cX2_nextOf 1 = .ok (.aload_n 0, 1) := by decide +kernel
theorem dX2_nextOf_2 : decode cX2_nextOf 2 = .ok (.getfield 7, 3) := by decide +kernel
theorem dX2_nextOf_5 : decode cX2_nextOf 5 = .ok (.iload_n 1, 1) := by decide +kernel
theorem dX2_nextOf_6 : decode cX2_nextOf 6 = .ok (.iaload, 1) := by decide +kernel
theorem dX2_nextOf_7 : decode cX2_nextOf 7 = .ok (.iload_n 2, 1) := by decide +kernel
theorem dX2_nextOf_8 : decode cX2_nextOf 8 = .ok (.invokestatic 47, 3) := by decide +kernel
theorem dX2_nextOf_11 : decode cX2_nextOf 11 = .ok (.iadd, 1) := by decide +kernel
theorem dX2_nextOf_12 : decode cX2_nextOf 12 = .ok (.aload_n 0, 1) := by decide +kernel
theorem dX2_nextOf_13 : decode cX2_nextOf 13 = .ok (.getfield 13, 3) := by decide +kernel
theorem dX2_nextOf_16 : decode cX2_nextOf 16 = .ok (.iload_n 1, 1) := by decide +kernel
theorem dX2_nextOf_17 : decode cX2_nextOf 17 = .ok (.iaload, 1) := by decide +kernel
theorem dX2_nextOf_18 : decode cX2_nextOf 18 = .ok (.iload_n 2, 1) := by decide +kernel
theorem dX2_nextOf_19 : decode cX2_nextOf 19 = .ok (.invokestatic 51, 3) := by decide +kernel
theorem dX2_nextOf_22 : decode cX2_nextOf 22 = .ok (.iadd, 1) := by decide +kernel
theorem dX2_nextOf_23 : decode cX2_nextOf 23 = .ok (.invokevirtual 62, 3) := by decide +kernel
theorem dX2_nextOf_26 : decode cX2_nextOf 26 = .ok (.ireturn, 1) := by decide +kernel
set_option maxRecDepth 20000 in
theorem ggX2_next_X2_isKey : GoodIn wsX2_next wsX2_isKey := goodIn_r _ [4, 5, 6, 3, 7] (by decide +kernel) (by decide +kernel)
set_option maxRecDepth 20000 in
theorem gX2_next_X2_isKey : GoodIn wsX2_next (va_wsS RX2 58 yX2_isKey wsX2_isKey) := goodIn_app (goodIn_of _ (by decide +kernel)) ggX2_next_X2_isKey
set_option maxRecDepth 20000 in
theorem ggX2_next_X2_in : GoodIn wsX2_next wsX2_in := goodIn_r _ [7] (by decide +kernel) (by decide +kernel)
set_option maxRecDepth 20000 in
theorem gX2_next_X2_in : GoodIn wsX2_next (va_wsS RX2 54 yX2_in wsX2_in) := goodIn_app (goodIn_of _ (by decide +kernel)) ggX2_next_X2_in
set_option maxRecDepth 20000 in
theorem ggX2_next_X2_nextOf : GoodIn wsX2_next wsX2_nextOf := goodIn_r _ [11, 12, 13, 14, 15, 3, 16, 17, 18, 19, 20, 21, 22, 23, 24, 5, 6, 7, 25, 26, 27, 28, 29, 30, 31, 32, 33, 34, 35, 36, 37, 38, 39] (by decide +kernel) (by decide +kernel)
set_option maxRecDepth 20000 in
theorem gX2_next_X2_nextOf : GoodIn wsX2_next (wsV RX2 66 RX2 yX2_nextOf wsX2_nextOf) := goodIn_app (goodIn_of _ (by decide +kernel)) ggX2_next_X2_nextOf
theorem dX2_next_0 : decode cX2_next 0 = .ok (.iload_n 1, 1) := by decide +kernel
theorem dX2_next_1 : decode cX2_next 1 = .ok (.invokestatic 58, 3) := by decide +kernel
theorem dX2_next_4 : decode cX2_next 4 = .ok (.ifCond .eq 22, 3) := by decide +kernel
theorem dX2_next_7 : decode cX2_next 7 = .ok (.iload_n 2, 1) := by decide +kernel
theorem dX2_next_8 : decode cX2_next 8 = .ok (.iconst 1, 1) := by decide +kernel
theorem dX2_next_9 : decode cX2_next 9 = .ok (.bipush 6, 2) := by decide +kernel
theorem dX2_next_11 : decode cX2_next 11 = .ok (.invokestatic 54, 3) := by decide +kernel
theorem dX2_next_14 : decode cX2_next 14 = .ok (.ifCond .eq 12, 3) := by decide +kernel
theorem dX2_next_17 : decode cX2_next 17 = .ok (.aload_n 0, 1) := by decide +kernel
theorem dX2_next_18 : decode cX2_next 18 = .ok (.iload_n 1, 1) := by decide +kernel
theorem dX2_next_19 : decode cX2_next 19 = .ok (.iload_n 2, 1) := by decide +kernel
theorem dX2_next_20 : decode cX2_next 20 = .ok (.invokevirtual 66, 3) := by decide +kernel
theorem dX2_next_23 : decode cX2_next 23 = .ok (.goto 5, 3) := by decide +kernel
theorem dX2_next_26 : decode cX2_next 26 = .ok (.bipush (-2), 2) := by decide +kernel
theorem dX2_next_28 : decode cX2_next 28 = .ok (.ireturn, 1) := by decide +kernel
set_option maxRecDepth 20000 in
theorem ggX2_farOf_X2_size : GoodIn wsX2_farOf wsX2_size := goodIn_r _ [6] (by decide +kernel) (by decide +kernel)
set_option maxRecDepth 20000 in
theorem gX2_farOf_X2_size : GoodIn wsX2_farOf (va_wsS RX2 69 yX2_size wsX2_size) := goodIn_app (goodIn_of _ (by decide +kernel)) ggX2_farOf_X2_size
theorem dX2_farOf_0 : decode cX2_farOf 0 = .ok (.aload_n 0, 1) := by decide +kernel
theorem dX2_farOf_1 : decode cX2_farOf 1 = .ok (.getfield 7, 3) := by decide +kernel
theorem dX2_farOf_4 : decode cX2_farOf 4 = .ok (.iload_n 1, 1) := by decide +kernel
theorem dX2_farOf_5 : decode cX2_farOf 5 = .ok (.iaload, 1) := by decide +kernel
theorem dX2_farOf_6 : decode cX2_farOf 6 = .ok (.aload_n 0, 1) := by decide +kernel
theorem dX2_farOf_7 : decode cX2_farOf 7 = .ok (.getfield 7, 3) := by decide +kernel
theorem dX2_farOf_10 : decode cX2_farOf 10 = .ok (.iload_n 2, 1) := by decide +kernel
theorem dX2_farOf_11 : decode cX2_farOf 11 = .ok (.iaload, 1) := by decide +kernel
theorem dX2_farOf_12 : decode cX2_farOf 12 = .ok (.isub, 1) := by decide +kernel
theorem dX2_farOf_13 : decode cX2_farOf 13 = .ok (.invokestatic 69, 3) := by decide +kernel
theorem dX2_farOf_16 : decode cX2_farOf 16 = .ok (.istore_n 3, 1) := by decide +kernel
theorem dX2_farOf_17 : decode cX2_farOf 17 = .ok (.aload_n 0, 1) := by decide +kernel
theorem dX2_farOf_18 : decode cX2_farOf 18 = .ok (.getfield 13, 3) := by decide +kernel
theorem dX2_farOf_21 : decode cX2_farOf 21 = .ok (.iload_n 1, 1) := by decide +kernel
theorem dX2_farOf_22 : decode cX2_farOf 22 = .ok (.iaload, 1) := by decide +kernel
theorem dX2_farOf_23 : decode cX2_farOf 23 = .ok (.aload_n 0, 1) := by decide +kernel
theorem dX2_farOf_24 : decode cX2_farOf 24 = .ok (.getfield 13, 3) := by decide +kernel
theorem dX2_farOf_27 : decode cX2_farOf 27 = .ok (.iload_n 2, 1) := by decide +kernel
theorem dX2_farOf_28 : decode cX2_farOf 28 = .ok (.iaload, 1) := by decide +kernel
theorem dX2_farOf_29 : decode cX2_farOf 29 = .ok (.isub, 1) := by decide +kernel
theorem dX2_farOf_30 : decode cX2_farOf 30 = .ok (.invokestatic 69, 3) := by decide +kernel
theorem dX2_farOf_33 : decode cX2_farOf 33 = .ok (.istore 4, 2) := by decide +kernel
theorem dX2_farOf_35 : decode cX2_farOf 35 = .ok (.aload_n 0, 1) := by decide +kernel
theorem dX2_farOf_36 : decode cX2_farOf 36 = .ok (.getfield 7, 3) := by decide +kernel
theorem dX2_farOf_39 : decode cX2_farOf 39 = .ok (.iload_n 1, 1) := by decide +kernel
theorem dX2_farOf_40 : decode cX2_farOf 40 = .ok (.iaload, 1) := by decide +kernel
theorem dX2_farOf_41 : decode cX2_farOf 41 = .ok (.aload_n 0, 1) := by decide +kernel
theorem dX2_farOf_42 : decode cX2_farOf 42 = .ok (.getfield 7, 3) := by decide +kernel
theorem dX2_farOf_45 : decode cX2_farOf 45 = .ok (.iload_n 2, 1) := by decide +kernel
theorem dX2_farOf_46 : decode cX2_farOf 46 = .ok (.iaload, 1) := by decide +kernel
theorem dX2_farOf_47 : decode cX2_farOf 47 = .ok (.isub, 1) := by decide +kernel
theorem dX2_farOf_48 : decode cX2_farOf 48 = .ok (.aload_n 0, 1) := by decide +kernel
theorem dX2_farOf_49 : decode cX2_farOf 49 = .ok (.getfield 13, 3) := by decide +kernel
theorem dX2_farOf_52 : decode cX2_farOf 52 = .ok (.iload_n 1, 1) := by decide +kernel
theorem dX2_farOf_53 : decode cX2_farOf 53 = .ok (.iaload, 1) := by decide +kernel
theorem dX2_farOf_54 : decode cX2_farOf 54 = .ok (.iadd, 1) := by decide +kernel
theorem dX2_farOf_55 : decode cX2_farOf 55 = .ok (.aload_n 0, 1) := by decide +kernel
theorem dX2_farOf_56 : decode cX2_farOf 56 = .ok (.getfield 13, 3) := by decide +kernel
theorem dX2_farOf_59 : decode cX2_farOf 59 = .ok (.iload_n 2, 1) := by decide +kernel
theorem dX2_farOf_60 : decode cX2_farOf 60 = .ok (.iaload, 1) := by decide +kernel
theorem dX2_farOf_61 : decode cX2_farOf 61 = .ok (.isub, 1) := by decide +kernel
theorem dX2_farOf_62 : decode cX2_farOf 62 = .ok (.invokestatic 69, 3) := by decide +kernel
theorem dX2_farOf_65 : decode cX2_farOf 65 = .ok (.istore 5, 2) := by decide +kernel
theorem dX2_farOf_67 : decode cX2_farOf 67 = .ok (.iload_n 3, 1) := by decide +kernel
theorem dX2_farOf_68 : decode cX2_farOf 68 = .ok (.iload 4, 2) := by decide +kernel
theorem dX2_farOf_70 : decode cX2_farOf 70 = .ok (.if_icmp .le 7, 3) := by decide +kernel
theorem dX2_farOf_73 : decode cX2_farOf 73 = .ok (.iload_n 3, 1) := by decide +kernel
theorem dX2_farOf_74 : decode cX2_farOf 74 = .ok (.goto 5, 3) := by decide +kernel
theorem dX2_farOf_77 : decode cX2_farOf 77 = .ok (.iload 4, 2) := by decide +kernel
theorem dX2_farOf_79 : decode cX2_farOf 79 = .ok (.istore 6, 2) := by decide +kernel
theorem dX2_farOf_81 : decode cX2_farOf 81 = .ok (.iload 6, 2) := by decide +kernel
theorem dX2_farOf_83 : decode cX2_farOf 83 = .ok (.iload 5, 2) := by decide +kernel
theorem dX2_farOf_85 : decode cX2_farOf 85 = .ok (.if_icmp .le 8, 3) := by decide +kernel
theorem dX2_farOf_88 : decode cX2_farOf 88 = .ok (.iload 6, 2) := by decide +kernel
theorem dX2_farOf_90 : decode cX2_farOf 90 = .ok (.goto 5, 3) := by decide +kernel
theorem dX2_farOf_93 : decode cX2_farOf 93 = .ok (.iload 5, 2) := by decide +kernel
theorem dX2_farOf_95 : decode cX2_farOf 95 = .ok (.ireturn, 1) := by decide +kernel
set_option maxRecDepth 20000 in
theorem ggX2_far_X2_isKey : GoodIn wsX2_far wsX2_isKey := goodIn_r _ [4, 5, 6, 3, 7] (by decide +kernel) (by decide +kernel)
set_option maxRecDepth 20000 in
theorem gX2_far_X2_isKey : GoodIn wsX2_far (va_wsS RX2 58 yX2_isKey wsX2_isKey) := goodIn_app (goodIn_of _ (by decide +kernel)) ggX2_far_X2_isKey
set_option maxRecDepth 20000 in
theorem ggX2_far_X2_farOf : GoodIn wsX2_far wsX2_farOf := goodIn_r _ [11, 12, 13, 14, 15, 3, 16, 17, 18, 19, 20, 21, 22, 23, 24, 25, 26, 27, 28, 29, 30, 31] (by decide +kernel) (by decide +kernel)
set_option maxRecDepth 20000 in
theorem gX2_far_X2_farOf : GoodIn wsX2_far (wsV RX2 72 RX2 yX2_farOf wsX2_farOf) := goodIn_app (goodIn_of _ (by decide +kernel)) ggX2_far_X2_farOf
theorem dX2_far_0 : decode cX2_far 0 = .ok (.iload_n 1, 1) := by decide +kernel
theorem dX2_far_1 : decode cX2_far 1 = .ok (.invokestatic 58, 3) := by decide +kernel
theorem dX2_far_4 : decode cX2_far 4 = .ok (.ifCond .eq 19, 3) := by decide +kernel
theorem dX2_far_7 : decode cX2_far 7 = .ok (.iload_n 2, 1) := by decide +kernel
theorem dX2_far_8 : decode cX2_far 8 = .ok (.invokestatic 58, 3) := by decide +kernel
theorem dX2_far_11 : decode cX2_far 11 = .ok (.ifCond .eq 12, 3) := by decide +kernel
theorem dX2_far_14 : decode cX2_far 14 = .ok (.aload_n 0, 1) := by decide +kernel
theorem dX2_far_15 : decode cX2_far 15 = .ok (.iload_n 1, 1) := by decide +kernel
theorem dX2_far_16 : decode cX2_far 16 = .ok (.iload_n 2, 1) := by decide +kernel
theorem dX2_far_17 : decode cX2_far 17 = .ok (.invokevirtual 72, 3) := by decide +kernel
theorem dX2_far_20 : decode cX2_far 20 = .ok (.goto 5, 3) := by decide +kernel
theorem dX2_far_23 : decode cX2_far 23 = .ok (.bipush (-2), 2) := by decide +kernel
theorem dX2_far_25 : decode cX2_far 25 = .ok (.ireturn, 1) := by decide +kernel
set_option maxRecDepth 20000 in
theorem ggX2_side_X2_isKey : GoodIn wsX2_side wsX2_isKey := goodIn_r _ [4, 5, 6, 3, 7] (by decide +kernel) (by decide +kernel)
set_option maxRecDepth 20000 in
theorem gX2_side_X2_isKey : GoodIn wsX2_side (va_wsS RX2 58 yX2_isKey wsX2_isKey) := goodIn_app (goodIn_of _ (by decide +kernel)) ggX2_side_X2_isKey
set_option maxRecDepth 20000 in
theorem ggX2_side_X2_nextOf : GoodIn wsX2_side wsX2_nextOf := goodIn_r _ [11, 12, 13, 14, 15, 3, 16, 17, 18, 19, 20, 21, 22, 23, 24, 5, 6, 7, 25, 26, 27, 28, 29, 30, 31, 32, 33, 34, 35, 36, 37, 38, 39] (by decide +kernel) (by decide +kernel)
set_option maxRecDepth 20000 in
theorem gX2_side_X2_nextOf : GoodIn wsX2_side (wsV RX2 66 RX2 yX2_nextOf wsX2_nextOf) := goodIn_app (goodIn_of _ (by decide +kernel)) ggX2_side_X2_nextOf
theorem dX2_side_0 : decode cX2_side 0 = .ok (.iload_n 1, 1) := by decide +kernel
theorem dX2_side_1 : decode cX2_side 1 = .ok (.invokestatic 58, 3) := by decide +kernel
theorem dX2_side_4 : decode cX2_side 4 = .ok (.ifCond .eq 10, 3) := by decide +kernel
theorem dX2_side_7 : decode cX2_side 7 = .ok (.iload_n 2, 1) := by decide +kernel
theorem dX2_side_8 : decode cX2_side 8 = .ok (.invokestatic 58, 3) := by decide +kernel
theorem dX2_side_11 : decode cX2_side 11 = .ok (.ifCond .ne 6, 3) := by decide +kernel
theorem dX2_side_14 : decode cX2_side 14 = .ok (.bipush (-2), 2) := by decide +kernel
theorem dX2_side_16 : decode cX2_side 16 = .ok (.ireturn, 1) := by decide +kernel
theorem dX2_side_17 : decode cX2_side 17 = .ok (.iload_n 1, 1) := by decide +kernel
theorem dX2_side_18 : decode cX2_side 18 = .ok (.iload_n 2, 1) := by decide +kernel
theorem dX2_side_19 : decode cX2_side 19 = .ok (.if_icmp .ne 7, 3) := by decide +kernel
theorem dX2_side_22 : decode cX2_side 22 = .ok (.iconst 0, 1) := by decide +kernel
theorem dX2_side_23 : decode cX2_side 23 = .ok (.goto 5, 3) := by decide +kernel
theorem dX2_side_26 : decode cX2_side 26 = .ok (.bipush (-6), 2) := by decide +kernel
theorem dX2_side_28 : decode cX2_side 28 = .ok (.istore_n 3, 1) := by decide +kernel
theorem dX2_side_29 : decode cX2_side 29 = .ok (.iconst 1, 1) := by decide +kernel
theorem dX2_side_30 : decode cX2_side 30 = .ok (.istore 4, 2) := by decide +kernel
theorem dX2_side_32 : decode cX2_side 32 = .ok (.iload 4, 2) := by decide +kernel
theorem dX2_side_34 : decode cX2_side 34 = .ok (.bipush 6, 2) := by decide +kernel
theorem dX2_side_36 : decode cX2_side 36 = .ok (.if_icmp .gt 27, 3) := by decide +kernel
theorem dX2_side_39 : decode cX2_side 39 = .ok (.aload_n 0, 1) := by decide +kernel
theorem dX2_side_40 : decode cX2_side 40 = .ok (.iload_n 1, 1) := by decide +kernel
theorem dX2_side_41 : decode cX2_side 41 = .ok (.iload 4, 2) := by decide +kernel
theorem dX2_side_43 : decode cX2_side 43 = .ok (.invokevirtual 66, 3) := by decide +kernel
theorem dX2_side_46 : decode cX2_side 46 = .ok (.iload_n 2, 1) := by decide +kernel
theorem dX2_side_47 : decode cX2_side 47 = .ok (.if_icmp .ne 8, 3) := by decide +kernel
theorem dX2_side_50 : decode cX2_side 50 = .ok (.iload 4, 2) := by decide +kernel
theorem dX2_side_52 : decode cX2_side 52 = .ok (.goto 4, 3) := by decide +kernel
theorem dX2_side_55 : decode cX2_side 55 = .ok (.iload_n 3, 1) := by decide +kernel
theorem dX2_side_56 : decode cX2_side 56 = .ok (.istore_n 3, 1) := by decide +kernel
theorem dX2_side_57 : decode cX2_side 57 = .ok (.iinc 4 1, 3) := by decide +kernel
theorem dX2_side_60 : decode cX2_side 60 = .ok (.goto (-28), 3) := by decide +kernel
theorem dX2_side_63 : decode cX2_side 63 = .ok (.iload_n 3, 1) := by decide +kernel
theorem dX2_side_64 : decode cX2_side 64 = .ok (.ireturn, 1) := by decide +kernel
theorem dX2_hexes_0 : decode cX2_hexes 0 = .ok (.iconst 1, 1) := by decide +kernel
theorem dX2_hexes_1 : decode cX2_hexes 1 = .ok (.istore_n 1, 1) := by decide +kernel
theorem dX2_hexes_2 : decode cX2_hexes 2 = .ok (.iconst 0, 1) := by decide +kernel
theorem dX2_hexes_3 : decode cX2_hexes 3 = .ok (.istore_n 2, 1) := by decide +kernel
theorem dX2_hexes_4 : decode cX2_hexes 4 = .ok (.iload_n 2, 1) := by decide +kernel
theorem dX2_hexes_5 : decode cX2_hexes 5 = .ok (.iload_n 0, 1) := by decide +kernel
theorem dX2_hexes_6 : decode cX2_hexes 6 = .ok (.if_icmp .ge 14, 3) := by decide +kernel
theorem dX2_hexes_9 : decode cX2_hexes 9 = .ok (.iload_n 1, 1) := by decide +kernel
theorem dX2_hexes_10 : decode cX2_hexes 10 = .ok (.bipush 7, 2) := by decide +kernel
theorem dX2_hexes_12 : decode cX2_hexes 12 = .ok (.imul, 1) := by decide +kernel
theorem dX2_hexes_13 : decode cX2_hexes 13 = .ok (.istore_n 1, 1) := by decide +kernel
theorem dX2_hexes_14 : decode cX2_hexes 14 = .ok (.iinc 2 1, 3) := by decide +kernel
theorem dX2_hexes_17 : decode cX2_hexes 17 = .ok (.goto (-13), 3) := by decide +kernel
theorem dX2_hexes_20 : decode cX2_hexes 20 = .ok (.iload_n 1, 1) := by decide +kernel
theorem dX2_hexes_21 : decode cX2_hexes 21 = .ok (.ireturn, 1) := by decide +kernel
set_option maxRecDepth 20000 in
theorem ggX2_patchOf_X2_hexes : GoodIn wsX2_patchOf wsX2_hexes := goodIn_r _ [4] (by decide +kernel) (by decide +kernel)
set_option maxRecDepth 20000 in
theorem gX2_patchOf_X2_hexes : GoodIn wsX2_patchOf (va_wsS RX2 75 yX2_hexes wsX2_hexes) := goodIn_app (goodIn_of _ (by decide +kernel)) ggX2_patchOf_X2_hexes
theorem dX2_patchOf_0 : decode cX2_patchOf 0 = .ok (.iload_n 0, 1) := by decide +kernel
theorem dX2_patchOf_1 : decode cX2_patchOf 1 = .ok (.iload_n 1, 1) := by decide +kernel
theorem dX2_patchOf_2 : decode cX2_patchOf 2 = .ok (.invokestatic 75, 3) := by decide +kernel
theorem dX2_patchOf_5 : decode cX2_patchOf 5 = .ok (.idiv, 1) := by decide +kernel
theorem dX2_patchOf_6 : decode cX2_patchOf 6 = .ok (.iload_n 1, 1) := by decide +kernel
theorem dX2_patchOf_7 : decode cX2_patchOf 7 = .ok (.invokestatic 75, 3) := by decide +kernel
theorem dX2_patchOf_10 : decode cX2_patchOf 10 = .ok (.imul, 1) := by decide +kernel
theorem dX2_patchOf_11 : decode cX2_patchOf 11 = .ok (.ireturn, 1) := by decide +kernel
set_option maxRecDepth 20000 in
theorem ggX2_patch_X2_isKey : GoodIn wsX2_patch wsX2_isKey := goodIn_r _ [4, 5, 6, 3, 7] (by decide +kernel) (by decide +kernel)
set_option maxRecDepth 20000 in
theorem gX2_patch_X2_isKey : GoodIn wsX2_patch (va_wsS RX2 58 yX2_isKey wsX2_isKey) := goodIn_app (goodIn_of _ (by decide +kernel)) ggX2_patch_X2_isKey
set_option maxRecDepth 20000 in
theorem ggX2_patch_X2_isLevel : GoodIn wsX2_patch wsX2_isLevel := goodIn_r _ [10, 5, 6, 3, 7] (by decide +kernel) (by decide +kernel)
set_option maxRecDepth 20000 in
theorem gX2_patch_X2_isLevel : GoodIn wsX2_patch (va_wsS RX2 78 yX2_isLevel wsX2_isLevel) := goodIn_app (goodIn_of _ (by decide +kernel)) ggX2_patch_X2_isLevel
set_option maxRecDepth 20000 in
theorem ggX2_patch_X2_patchOf : GoodIn wsX2_patch wsX2_patchOf := goodIn_r _ [13, 14, 15, 3, 16] (by decide +kernel) (by decide +kernel)
set_option maxRecDepth 20000 in
theorem gX2_patch_X2_patchOf : GoodIn wsX2_patch (va_wsS RX2 81 yX2_patchOf wsX2_patchOf) := goodIn_app (goodIn_of _ (by decide +kernel)) ggX2_patch_X2_patchOf
theorem dX2_patch_0 : decode cX2_patch 0 = .ok (.iload_n 1, 1) := by decide +kernel
theorem dX2_patch_1 : decode cX2_patch 1 = .ok (.invokestatic 58, 3) := by decide +kernel
theorem dX2_patch_4 : decode cX2_patch 4 = .ok (.ifCond .eq 18, 3) := by decide +kernel
theorem dX2_patch_7 : decode cX2_patch 7 = .ok (.iload_n 2, 1) := by decide +kernel
theorem dX2_patch_8 : decode cX2_patch 8 = .ok (.invokestatic 78, 3) := by decide +kernel
theorem dX2_patch_11 : decode cX2_patch 11 = .ok (.ifCond .eq 11, 3) := by decide +kernel
theorem dX2_patch_14 : decode cX2_patch 14 = .ok (.iload_n 1, 1) := by decide +kernel
theorem dX2_patch_15 : decode cX2_patch 15 = .ok (.iload_n 2, 1) := by decide +kernel
theorem dX2_patch_16 : decode cX2_patch 16 = .ok (.invokestatic 81, 3) := by decide +kernel
theorem dX2_patch_19 : decode cX2_patch 19 = .ok (.goto 5, 3) := by decide +kernel
theorem dX2_patch_22 : decode cX2_patch 22 = .ok (.bipush (-2), 2) := by decide +kernel
theorem dX2_patch_24 : decode cX2_patch 24 = .ok (.ireturn, 1) := by decide +kernel
set_option maxRecDepth 20000 in
theorem ggX2_around_X2_isKey : GoodIn wsX2_around wsX2_isKey := goodIn_r _ [5, 6, 7, 4, 8] (by decide +kernel) (by decide +kernel)
set_option maxRecDepth 20000 in
theorem gX2_around_X2_isKey : GoodIn wsX2_around (va_wsS RX2 58 yX2_isKey wsX2_isKey) := goodIn_app (goodIn_of _ (by decide +kernel)) ggX2_around_X2_isKey
set_option maxRecDepth 20000 in
theorem ggX2_around_X2_isLevel : GoodIn wsX2_around wsX2_isLevel := goodIn_r _ [11, 6, 7, 4, 8] (by decide +kernel) (by decide +kernel)
set_option maxRecDepth 20000 in
theorem gX2_around_X2_isLevel : GoodIn wsX2_around (va_wsS RX2 78 yX2_isLevel wsX2_isLevel) := goodIn_app (goodIn_of _ (by decide +kernel)) ggX2_around_X2_isLevel
set_option maxRecDepth 20000 in
theorem ggX2_around_X2_patchOf : GoodIn wsX2_around wsX2_patchOf := goodIn_r _ [14, 15, 16, 4, 17] (by decide +kernel) (by decide +kernel)
set_option maxRecDepth 20000 in
theorem gX2_around_X2_patchOf : GoodIn wsX2_around (va_wsS RX2 81 yX2_patchOf wsX2_patchOf) := goodIn_app (goodIn_of _ (by decide +kernel)) ggX2_around_X2_patchOf
set_option maxRecDepth 20000 in
theorem ggX2_around_X2_hexes : GoodIn wsX2_around wsX2_hexes := goodIn_r _ [17] (by decide +kernel) (by decide +kernel)
set_option maxRecDepth 20000 in
theorem gX2_around_X2_hexes : GoodIn wsX2_around (va_wsS RX2 75 yX2_hexes wsX2_hexes) := goodIn_app (goodIn_of _ (by decide +kernel)) ggX2_around_X2_hexes
set_option maxRecDepth 20000 in
theorem ggX2_around_X2_nextOf : GoodIn wsX2_around wsX2_nextOf := goodIn_r _ [21, 22, 23, 24, 25, 4, 26, 27, 28, 29, 30, 31, 32, 33, 34, 6, 7, 8, 35, 36, 37, 38, 39, 40, 41, 42, 43, 44, 45, 46, 47, 48, 49] (by decide +kernel) (by decide +kernel)
set_option maxRecDepth 20000 in
theorem gX2_around_X2_nextOf : GoodIn wsX2_around (wsV RX2 66 RX2 yX2_nextOf wsX2_nextOf) := goodIn_app (goodIn_of _ (by decide +kernel)) ggX2_around_X2_nextOf
theorem dX2_around_0 : decode cX2_around 0 = .ok (.iload_n 1, 1) := by decide +kernel
theorem dX2_around_1 : decode cX2_around 1 = .ok (.invokestatic 58, 3) := by decide +kernel
theorem dX2_around_4 : decode cX2_around 4 = .ok (.ifCond .eq 10, 3) := by decide +kernel
theorem dX2_around_7 : decode cX2_around 7 = .ok (.iload_n 2, 1) := by decide +kernel
theorem dX2_around_8 : decode cX2_around 8 = .ok (.invokestatic 78, 3) := by decide +kernel
theorem dX2_around_11 : decode cX2_around 11 = .ok (.ifCond .ne 6, 3) := by decide +kernel
theorem dX2_around_14 : decode cX2_around 14 = .ok (.bipush (-2), 2) := by decide +kernel
theorem dX2_around_16 : decode cX2_around 16 = .ok (.ireturn, 1) := by decide +kernel
theorem dX2_around_17 : decode cX2_around 17 = .ok (.iload_n 1, 1) := by decide +kernel
theorem dX2_around_18 : decode cX2_around 18 = .ok (.iload_n 2, 1) := by decide +kernel
theorem dX2_around_19 : decode cX2_around 19 = .ok (.invokestatic 81, 3) := by decide +kernel
theorem dX2_around_22 : decode cX2_around 22 = .ok (.istore_n 3, 1) := by decide +kernel
theorem dX2_around_23 : decode cX2_around 23 = .ok (.iconst 0, 1) := by decide +kernel
theorem dX2_around_24 : decode cX2_around 24 = .ok (.istore 4, 2) := by decide +kernel
theorem dX2_around_26 : decode cX2_around 26 = .ok (.iconst 0, 1) := by decide +kernel
theorem dX2_around_27 : decode cX2_around 27 = .ok (.istore 5, 2) := by decide +kernel
theorem dX2_around_29 : decode cX2_around 29 = .ok (.iload 5, 2) := by decide +kernel
theorem dX2_around_31 : decode cX2_around 31 = .ok (.sipush 2401, 3) := by decide +kernel
theorem dX2_around_34 : decode cX2_around 34 = .ok (.if_icmp .ge 17, 3) := by decide +kernel
theorem dX2_around_37 : decode cX2_around 37 = .ok (.aload_n 0, 1) := by decide +kernel
theorem dX2_around_38 : decode cX2_around 38 = .ok (.getfield 26, 3) := by decide +kernel
theorem dX2_around_41 : decode cX2_around 41 = .ok (.iload 5, 2) := by decide +kernel
theorem dX2_around_43 : decode cX2_around 43 = .ok (.iconst 0, 1) := by decide +kernel
theorem dX2_around_44 : decode cX2_around 44 = .ok (.bastore, 1) := by decide +kernel
theorem dX2_around_45 : decode cX2_around 45 = .ok (.iinc 5 1, 3) := by decide +kernel
theorem dX2_around_48 : decode cX2_around 48 = .ok (.goto (-19), 3) := by decide +kernel
theorem dX2_around_51 : decode cX2_around 51 = .ok (.iload_n 3, 1) := by decide +kernel
theorem dX2_around_52 : decode cX2_around 52 = .ok (.istore 5, 2) := by decide +kernel
theorem dX2_around_54 : decode cX2_around 54 = .ok (.iload 5, 2) := by decide +kernel
theorem dX2_around_56 : decode cX2_around 56 = .ok (.iload_n 3, 1) := by decide +kernel
theorem dX2_around_57 : decode cX2_around 57 = .ok (.iload_n 2, 1) := by decide +kernel
theorem dX2_around_58 : decode cX2_around 58 = .ok (.invokestatic 75, 3) := by decide +kernel
theorem dX2_around_61 : decode cX2_around 61 = .ok (.iadd, 1) := by decide +kernel
theorem dX2_around_62 : decode cX2_around 62 = .ok (.if_icmp .ge 79, 3) := by decide +kernel
theorem dX2_around_65 : decode cX2_around 65 = .ok (.iconst 1, 1) := by decide +kernel
theorem dX2_around_66 : decode cX2_around 66 = .ok (.istore 6, 2) := by decide +kernel
theorem dX2_around_68 : decode cX2_around 68 = .ok (.iload 6, 2) := by decide +kernel
theorem dX2_around_70 : decode cX2_around 70 = .ok (.bipush 6, 2) := by decide +kernel
theorem dX2_around_72 : decode cX2_around 72 = .ok (.if_icmp .gt 63, 3) := by decide +kernel
theorem dX2_around_75 : decode cX2_around 75 = .ok (.aload_n 0, 1) := by decide +kernel
theorem dX2_around_76 : decode cX2_around 76 = .ok (.iload 5, 2) := by decide +kernel
theorem dX2_around_78 : decode cX2_around 78 = .ok (.iload 6, 2) := by decide +kernel
theorem dX2_around_80 : decode cX2_around 80 = .ok (.invokevirtual 66, 3) := by decide +kernel
theorem dX2_around_83 : decode cX2_around 83 = .ok (.istore 7, 2) := by decide +kernel
theorem dX2_around_85 : decode cX2_around 85 = .ok (.iload 7, 2) := by decide +kernel
theorem dX2_around_87 : decode cX2_around 87 = .ok (.ifCond .ge 7, 3) := by decide +kernel
theorem dX2_around_90 : decode cX2_around 90 = .ok (.iload_n 3, 1) := by decide +kernel
theorem dX2_around_91 : decode cX2_around 91 = .ok (.goto 9, 3) := by decide +kernel
theorem dX2_around_94 : decode cX2_around 94 = .ok (.iload 7, 2) := by decide +kernel
theorem dX2_around_96 : decode cX2_around 96 = .ok (.iload_n 2, 1) := by decide +kernel
theorem dX2_around_97 : decode cX2_around 97 = .ok (.invokestatic 81, 3) := by decide +kernel
theorem dX2_around_100 : decode cX2_around 100 = .ok (.istore 8, 2) := by decide +kernel
theorem dX2_around_102 : decode cX2_around 102 = .ok (.iload 8, 2) := by decide +kernel
theorem dX2_around_104 : decode cX2_around 104 = .ok (.iload_n 3, 1) := by decide +kernel
theorem dX2_around_105 : decode cX2_around 105 = .ok (.if_icmp .eq 24, 3) := by decide +kernel
theorem dX2_around_108 : decode cX2_around 108 = .ok (.aload_n 0, 1) := by decide +kernel
theorem dX2_around_109 : decode cX2_around 109 = .ok (.getfield 26, 3) := by decide +kernel
theorem dX2_around_112 : decode cX2_around 112 = .ok (.iload 8, 2) := by decide +kernel
theorem dX2_around_114 : decode cX2_around 114 = .ok (.baload, 1) := by decide +kernel
theorem dX2_around_115 : decode cX2_around 115 = .ok (.ifCond .ne 14, 3) := by decide +kernel
theorem dX2_around_118 : decode cX2_around 118 = .ok (.aload_n 0, 1) := by decide +kernel
theorem dX2_around_119 : decode cX2_around 119 = .ok (.getfield 26, 3) := by decide +kernel
theorem dX2_around_122 : decode cX2_around 122 = .ok (.iload 8, 2) := by decide +kernel
theorem dX2_around_124 : decode cX2_around 124 = .ok (.iconst 1, 1) := by decide +kernel
theorem dX2_around_125 : decode cX2_around 125 = .ok (.bastore, 1) := by decide +kernel
theorem dX2_around_126 : decode cX2_around 126 = .ok (.iinc 4 1, 3) := by decide +kernel
theorem dX2_around_129 : decode cX2_around 129 = .ok (.iinc 6 1, 3) := by decide +kernel
theorem dX2_around_132 : decode cX2_around 132 = .ok (.goto (-64), 3) := by decide +kernel
theorem dX2_around_135 : decode cX2_around 135 = .ok (.iinc 5 1, 3) := by decide +kernel
theorem dX2_around_138 : decode cX2_around 138 = .ok (.goto (-84), 3) := by decide +kernel
theorem dX2_around_141 : decode cX2_around 141 = .ok (.iload 4, 2) := by decide +kernel
theorem dX2_around_143 : decode cX2_around 143 = .ok (.ireturn, 1) := by decide +kernel
set_option maxRecDepth 20000 in
theorem ggX2_ring_X2_isKey : GoodIn wsX2_ring wsX2_isKey := goodIn_r _ [4, 5, 6, 3, 7] (by decide +kernel) (by decide +kernel)
set_option maxRecDepth 20000 in
theorem gX2_ring_X2_isKey : GoodIn wsX2_ring (va_wsS RX2 58 yX2_isKey wsX2_isKey) := goodIn_app (goodIn_of _ (by decide +kernel)) ggX2_ring_X2_isKey
set_option maxRecDepth 20000 in
theorem ggX2_ring_X2_in : GoodIn wsX2_ring wsX2_in := goodIn_r _ [7] (by decide +kernel) (by decide +kernel)
set_option maxRecDepth 20000 in
theorem gX2_ring_X2_in : GoodIn wsX2_ring (va_wsS RX2 54 yX2_in wsX2_in) := goodIn_app (goodIn_of _ (by decide +kernel)) ggX2_ring_X2_in
set_option maxRecDepth 20000 in
theorem ggX2_ring_X2_farOf : GoodIn wsX2_ring wsX2_farOf := goodIn_r _ [11, 12, 13, 14, 15, 3, 16, 17, 18, 19, 20, 21, 22, 23, 24, 25, 26, 27, 28, 29, 30, 31] (by decide +kernel) (by decide +kernel)
set_option maxRecDepth 20000 in
theorem gX2_ring_X2_farOf : GoodIn wsX2_ring (wsV RX2 72 RX2 yX2_farOf wsX2_farOf) := goodIn_app (goodIn_of _ (by decide +kernel)) ggX2_ring_X2_farOf
theorem dX2_ring_0 : decode cX2_ring 0 = .ok (.iload_n 1, 1) := by decide +kernel
theorem dX2_ring_1 : decode cX2_ring 1 = .ok (.invokestatic 58, 3) := by decide +kernel
theorem dX2_ring_4 : decode cX2_ring 4 = .ok (.ifCond .eq 13, 3) := by decide +kernel
theorem dX2_ring_7 : decode cX2_ring 7 = .ok (.iload_n 2, 1) := by decide +kernel
theorem dX2_ring_8 : decode cX2_ring 8 = .ok (.iconst 0, 1) := by decide +kernel
theorem dX2_ring_9 : decode cX2_ring 9 = .ok (.bipush 70, 2) := by decide +kernel
theorem dX2_ring_11 : decode cX2_ring 11 = .ok (.invokestatic 54, 3) := by decide +kernel
theorem dX2_ring_14 : decode cX2_ring 14 = .ok (.ifCond .ne 6, 3) := by decide +kernel
theorem dX2_ring_17 : decode cX2_ring 17 = .ok (.bipush (-2), 2) := by decide +kernel
theorem dX2_ring_19 : decode cX2_ring 19 = .ok (.ireturn, 1) := by decide +kernel
theorem dX2_ring_20 : decode cX2_ring 20 = .ok (.iconst 0, 1) := by decide +kernel
theorem dX2_ring_21 : decode cX2_ring 21 = .ok (.istore_n 3, 1) := by decide +kernel
theorem dX2_ring_22 : decode cX2_ring 22 = .ok (.iconst 0, 1) := by decide +kernel
theorem dX2_ring_23 : decode cX2_ring 23 = .ok (.istore 4, 2) := by decide +kernel
theorem dX2_ring_25 : decode cX2_ring 25 = .ok (.iload 4, 2) := by decide +kernel
theorem dX2_ring_27 : decode cX2_ring 27 = .ok (.sipush 2401, 3) := by decide +kernel
theorem dX2_ring_30 : decode cX2_ring 30 = .ok (.if_icmp .ge 28, 3) := by decide +kernel
theorem dX2_ring_33 : decode cX2_ring 33 = .ok (.iload_n 3, 1) := by decide +kernel
theorem dX2_ring_34 : decode cX2_ring 34 = .ok (.aload_n 0, 1) := by decide +kernel
theorem dX2_ring_35 : decode cX2_ring 35 = .ok (.iload_n 1, 1) := by decide +kernel
theorem dX2_ring_36 : decode cX2_ring 36 = .ok (.iload 4, 2) := by decide +kernel
theorem dX2_ring_38 : decode cX2_ring 38 = .ok (.invokevirtual 72, 3) := by decide +kernel
theorem dX2_ring_41 : decode cX2_ring 41 = .ok (.iload_n 2, 1) := by decide +kernel
theorem dX2_ring_42 : decode cX2_ring 42 = .ok (.if_icmp .ne 7, 3) := by decide +kernel
theorem dX2_ring_45 : decode cX2_ring 45 = .ok (.iconst 1, 1) := by decide +kernel
theorem dX2_ring_46 : decode cX2_ring 46 = .ok (.goto 4, 3) := by decide +kernel
theorem dX2_ring_49 : decode cX2_ring 49 = .ok (.iconst 0, 1) := by decide +kernel
theorem dX2_ring_50 : decode cX2_ring 50 = .ok (.iadd, 1) := by decide +kernel
theorem dX2_ring_51 : decode cX2_ring 51 = .ok (.istore_n 3, 1) := by decide +kernel
theorem dX2_ring_52 : decode cX2_ring 52 = .ok (.iinc 4 1, 3) := by decide +kernel
theorem dX2_ring_55 : decode cX2_ring 55 = .ok (.goto (-30), 3) := by decide +kernel
theorem dX2_ring_58 : decode cX2_ring 58 = .ok (.iload_n 3, 1) := by decide +kernel
theorem dX2_ring_59 : decode cX2_ring 59 = .ok (.ireturn, 1) := by decide +kernel
theorem dX2_isIn_0 : decode cX2_isIn 0 = .ok (.aload_n 0, 1) := by decide +kernel
theorem dX2_isIn_1 : decode cX2_isIn 1 = .ok (.getfield 19, 3) := by decide +kernel
theorem dX2_isIn_4 : decode cX2_isIn 4 = .ok (.sipush 2401, 3) := by decide +kernel
theorem dX2_isIn_7 : decode cX2_isIn 7 = .ok (.iload_n 1, 1) := by decide +kernel
theorem dX2_isIn_8 : decode cX2_isIn 8 = .ok (.imul, 1) := by decide +kernel
theorem dX2_isIn_9 : decode cX2_isIn 9 = .ok (.iload_n 2, 1) := by decide +kernel
theorem dX2_isIn_10 : decode cX2_isIn 10 = .ok (.iadd, 1) := by decide +kernel
theorem dX2_isIn_11 : decode cX2_isIn 11 = .ok (.baload, 1) := by decide +kernel
theorem dX2_isIn_12 : decode cX2_isIn 12 = .ok (.ireturn, 1) := by decide +kernel
set_option maxRecDepth 20000 in
theorem ggX2_many_X2_isIn : GoodIn wsX2_many wsX2_isIn := goodIn_r _ [5, 6, 7, 8, 9, 10, 11, 12, 13, 14, 15, 16, 17, 18, 19, 20, 21] (by decide +kernel) (by decide +kernel)
set_option maxRecDepth 20000 in
theorem gX2_many_X2_isIn : GoodIn wsX2_many (wsV RX2 84 RX2 yX2_isIn wsX2_isIn) := goodIn_app (goodIn_of _ (by decide +kernel)) ggX2_many_X2_isIn
theorem dX2_many_0 : decode cX2_many 0 = .ok (.iconst 0, 1) := by decide +kernel
theorem dX2_many_1 : decode cX2_many 1 = .ok (.istore_n 2, 1) := by decide +kernel
theorem dX2_many_2 : decode cX2_many 2 = .ok (.iconst 0, 1) := by decide +kernel
theorem dX2_many_3 : decode cX2_many 3 = .ok (.istore_n 3, 1) := by decide +kernel
theorem dX2_many_4 : decode cX2_many 4 = .ok (.iload_n 3, 1) := by decide +kernel
theorem dX2_many_5 : decode cX2_many 5 = .ok (.sipush 2401, 3) := by decide +kernel
theorem dX2_many_8 : decode cX2_many 8 = .ok (.if_icmp .ge 26, 3) := by decide +kernel
theorem dX2_many_11 : decode cX2_many 11 = .ok (.iload_n 2, 1) := by decide +kernel
theorem dX2_many_12 : decode cX2_many 12 = .ok (.aload_n 0, 1) := by decide +kernel
theorem dX2_many_13 : decode cX2_many 13 = .ok (.iload_n 1, 1) := by decide +kernel
theorem dX2_many_14 : decode cX2_many 14 = .ok (.iload_n 3, 1) := by decide +kernel
theorem dX2_many_15 : decode cX2_many 15 = .ok (.invokevirtual 84, 3) := by decide +kernel
theorem dX2_many_18 : decode cX2_many 18 = .ok (.ifCond .eq 7, 3) := by decide +kernel
theorem dX2_many_21 : decode cX2_many 21 = .ok (.iconst 1, 1) := by decide +kernel
theorem dX2_many_22 : decode cX2_many 22 = .ok (.goto 4, 3) := by decide +kernel
theorem dX2_many_25 : decode cX2_many 25 = .ok (.iconst 0, 1) := by decide +kernel
theorem dX2_many_26 : decode cX2_many 26 = .ok (.iadd, 1) := by decide +kernel
theorem dX2_many_27 : decode cX2_many 27 = .ok (.istore_n 2, 1) := by decide +kernel
theorem dX2_many_28 : decode cX2_many 28 = .ok (.iinc 3 1, 3) := by decide +kernel
theorem dX2_many_31 : decode cX2_many 31 = .ok (.goto (-27), 3) := by decide +kernel
theorem dX2_many_34 : decode cX2_many 34 = .ok (.iload_n 2, 1) := by decide +kernel
theorem dX2_many_35 : decode cX2_many 35 = .ok (.ireturn, 1) := by decide +kernel
set_option maxRecDepth 20000 in
theorem ggX2_put_X2_isSlot : GoodIn wsX2_put wsX2_isSlot := goodIn_r _ [5, 6, 7, 4, 8] (by decide +kernel) (by decide +kernel)
set_option maxRecDepth 20000 in
theorem gX2_put_X2_isSlot : GoodIn wsX2_put (va_wsS RX2 88 yX2_isSlot wsX2_isSlot) := goodIn_app (goodIn_of _ (by decide +kernel)) ggX2_put_X2_isSlot
set_option maxRecDepth 20000 in
theorem ggX2_put_X2_isKey : GoodIn wsX2_put wsX2_isKey := goodIn_r _ [11, 6, 7, 4, 8] (by decide +kernel) (by decide +kernel)
set_option maxRecDepth 20000 in
theorem gX2_put_X2_isKey : GoodIn wsX2_put (va_wsS RX2 58 yX2_isKey wsX2_isKey) := goodIn_app (goodIn_of _ (by decide +kernel)) ggX2_put_X2_isKey
set_option maxRecDepth 20000 in
theorem ggX2_put_X2_isLevel : GoodIn wsX2_put wsX2_isLevel := goodIn_r _ [14, 6, 7, 4, 8] (by decide +kernel) (by decide +kernel)
set_option maxRecDepth 20000 in
theorem gX2_put_X2_isLevel : GoodIn wsX2_put (va_wsS RX2 78 yX2_isLevel wsX2_isLevel) := goodIn_app (goodIn_of _ (by decide +kernel)) ggX2_put_X2_isLevel
set_option maxRecDepth 20000 in
theorem ggX2_put_X2_in : GoodIn wsX2_put wsX2_in := goodIn_r _ [8] (by decide +kernel) (by decide +kernel)
set_option maxRecDepth 20000 in
theorem gX2_put_X2_in : GoodIn wsX2_put (va_wsS RX2 54 yX2_in wsX2_in) := goodIn_app (goodIn_of _ (by decide +kernel)) ggX2_put_X2_in
set_option maxRecDepth 20000 in
theorem ggX2_put_X2_patchOf : GoodIn wsX2_put wsX2_patchOf := goodIn_r _ [17, 18, 19, 4, 20] (by decide +kernel) (by decide +kernel)
set_option maxRecDepth 20000 in
theorem gX2_put_X2_patchOf : GoodIn wsX2_put (va_wsS RX2 81 yX2_patchOf wsX2_patchOf) := goodIn_app (goodIn_of _ (by decide +kernel)) ggX2_put_X2_patchOf
set_option maxRecDepth 20000 in
theorem ggX2_put_X2_hexes : GoodIn wsX2_put wsX2_hexes := goodIn_r _ [20] (by decide +kernel) (by decide +kernel)
set_option maxRecDepth 20000 in
theorem gX2_put_X2_hexes : GoodIn wsX2_put (va_wsS RX2 75 yX2_hexes wsX2_hexes) := goodIn_app (goodIn_of _ (by decide +kernel)) ggX2_put_X2_hexes
set_option maxRecDepth 20000 in
theorem ggX2_put_X2_many : GoodIn wsX2_put wsX2_many := goodIn_r _ [24, 25, 26, 27, 4, 28, 1, 29, 30, 31, 32, 33, 34, 35, 36, 37, 38, 39, 40, 41, 42, 43] (by decide +kernel) (by decide +kernel)
set_option maxRecDepth 20000 in
theorem gX2_put_X2_many : GoodIn wsX2_put (wsV RX2 91 RX2 yX2_many wsX2_many) := goodIn_app (goodIn_of _ (by decide +kernel)) ggX2_put_X2_many
theorem dX2_put_0 : decode cX2_put 0 = .ok (.iload_n 1, 1) := by decide +kernel
theorem dX2_put_1 : decode cX2_put 1 = .ok (.invokestatic 88, 3) := by decide +kernel
theorem dX2_put_4 : decode cX2_put 4 = .ok (.ifCond .ne 5, 3) := by decide +kernel
theorem dX2_put_7 : decode cX2_put 7 = .ok (.iconst (-1), 1) := by decide +kernel
theorem dX2_put_8 : decode cX2_put 8 = .ok (.ireturn, 1) := by decide +kernel
theorem dX2_put_9 : decode cX2_put 9 = .ok (.iload_n 2, 1) := by decide +kernel
theorem dX2_put_10 : decode cX2_put 10 = .ok (.invokestatic 58, 3) := by decide +kernel
theorem dX2_put_13 : decode cX2_put 13 = .ok (.ifCond .eq 20, 3) := by decide +kernel
theorem dX2_put_16 : decode cX2_put 16 = .ok (.iload_n 3, 1) := by decide +kernel
theorem dX2_put_17 : decode cX2_put 17 = .ok (.invokestatic 78, 3) := by decide +kernel
theorem dX2_put_20 : decode cX2_put 20 = .ok (.ifCond .eq 13, 3) := by decide +kernel
theorem dX2_put_23 : decode cX2_put 23 = .ok (.iload 4, 2) := by decide +kernel
theorem dX2_put_25 : decode cX2_put 25 = .ok (.iconst 0, 1) := by decide +kernel
theorem dX2_put_26 : decode cX2_put 26 = .ok (.iconst 1, 1) := by decide +kernel
theorem dX2_put_27 : decode cX2_put 27 = .ok (.invokestatic 54, 3) := by decide +kernel
theorem dX2_put_30 : decode cX2_put 30 = .ok (.ifCond .ne 6, 3) := by decide +kernel
theorem dX2_put_33 : decode cX2_put 33 = .ok (.bipush (-2), 2) := by decide +kernel
theorem dX2_put_35 : decode cX2_put 35 = .ok (.ireturn, 1) := by decide +kernel
theorem dX2_put_36 : decode cX2_put 36 = .ok (.iload_n 2, 1) := by decide +kernel
theorem dX2_put_37 : decode cX2_put 37 = .ok (.iload_n 3, 1) := by decide +kernel
theorem dX2_put_38 : decode cX2_put 38 = .ok (.invokestatic 81, 3) := by decide +kernel
theorem dX2_put_41 : decode cX2_put 41 = .ok (.istore 5, 2) := by decide +kernel
theorem dX2_put_43 : decode cX2_put 43 = .ok (.iload 5, 2) := by decide +kernel
theorem dX2_put_45 : decode cX2_put 45 = .ok (.istore 6, 2) := by decide +kernel
theorem dX2_put_47 : decode cX2_put 47 = .ok (.iload 6, 2) := by decide +kernel
theorem dX2_put_49 : decode cX2_put 49 = .ok (.iload 5, 2) := by decide +kernel
theorem dX2_put_51 : decode cX2_put 51 = .ok (.iload_n 3, 1) := by decide +kernel
theorem dX2_put_52 : decode cX2_put 52 = .ok (.invokestatic 75, 3) := by decide +kernel
theorem dX2_put_55 : decode cX2_put 55 = .ok (.iadd, 1) := by decide +kernel
theorem dX2_put_56 : decode cX2_put 56 = .ok (.if_icmp .ge 33, 3) := by decide +kernel
theorem dX2_put_59 : decode cX2_put 59 = .ok (.aload_n 0, 1) := by decide +kernel
theorem dX2_put_60 : decode cX2_put 60 = .ok (.getfield 19, 3) := by decide +kernel
theorem dX2_put_63 : decode cX2_put 63 = .ok (.sipush 2401, 3) := by decide +kernel
theorem dX2_put_66 : decode cX2_put 66 = .ok (.iload_n 1, 1) := by decide +kernel
theorem dX2_put_67 : decode cX2_put 67 = .ok (.imul, 1) := by decide +kernel
theorem dX2_put_68 : decode cX2_put 68 = .ok (.iload 6, 2) := by decide +kernel
theorem dX2_put_70 : decode cX2_put 70 = .ok (.iadd, 1) := by decide +kernel
theorem dX2_put_71 : decode cX2_put 71 = .ok (.iload 4, 2) := by decide +kernel
theorem dX2_put_73 : decode cX2_put 73 = .ok (.iconst 1, 1) := by decide +kernel
theorem dX2_put_74 : decode cX2_put 74 = .ok (.if_icmp .ne 7, 3) := by decide +kernel
theorem dX2_put_77 : decode cX2_put 77 = .ok (.iconst 1, 1) := by decide +kernel
theorem dX2_put_78 : decode cX2_put 78 = .ok (.goto 4, 3) := by decide +kernel
theorem dX2_put_81 : decode cX2_put 81 = .ok (.iconst 0, 1) := by decide +kernel
theorem dX2_put_82 : decode cX2_put 82 = .ok (.bastore, 1) := by decide +kernel
theorem dX2_put_83 : decode cX2_put 83 = .ok (.iinc 6 1, 3) := by decide +kernel
theorem dX2_put_86 : decode cX2_put 86 = .ok (.goto (-39), 3) := by decide +kernel
theorem dX2_put_89 : decode cX2_put 89 = .ok (.aload_n 0, 1) := by decide +kernel
theorem dX2_put_90 : decode cX2_put 90 = .ok (.iload_n 1, 1) := by decide +kernel
theorem dX2_put_91 : decode cX2_put 91 = .ok (.invokevirtual 91, 3) := by decide +kernel
theorem dX2_put_94 : decode cX2_put 94 = .ok (.ireturn, 1) := by decide +kernel
set_option maxRecDepth 20000 in
theorem ggX2_keep_X2_many : GoodIn wsX2_keep wsX2_many := goodIn_r _ [7, 8, 9, 10, 6, 11, 1, 12, 13, 14, 15, 16, 17, 18, 19, 20, 21, 22, 23, 24, 25, 26] (by decide +kernel) (by decide +kernel)
set_option maxRecDepth 20000 in
theorem gX2_keep_X2_many : GoodIn wsX2_keep (wsV RX2 91 RX2 yX2_many wsX2_many) := goodIn_app (goodIn_of _ (by decide +kernel)) ggX2_keep_X2_many
theorem dX2_keep_0 : decode cX2_keep 0 = .ok (.iconst 0, 1) := by decide +kernel
theorem dX2_keep_1 : decode cX2_keep 1 = .ok (.istore_n 2, 1) := by decide +kernel
theorem dX2_keep_2 : decode cX2_keep 2 = .ok (.iload_n 2, 1) := by decide +kernel
theorem dX2_keep_3 : decode cX2_keep 3 = .ok (.sipush 2401, 3) := by decide +kernel
theorem dX2_keep_6 : decode cX2_keep 6 = .ok (.if_icmp .ge 27, 3) := by decide +kernel
theorem dX2_keep_9 : decode cX2_keep 9 = .ok (.aload_n 0, 1) := by decide +kernel
theorem dX2_keep_10 : decode cX2_keep 10 = .ok (.getfield 19, 3) := by decide +kernel
theorem dX2_keep_13 : decode cX2_keep 13 = .ok (.sipush 2401, 3) := by decide +kernel
theorem dX2_keep_16 : decode cX2_keep 16 = .ok (.iload_n 1, 1) := by decide +kernel
theorem dX2_keep_17 : decode cX2_keep 17 = .ok (.imul, 1) := by decide +kernel
theorem dX2_keep_18 : decode cX2_keep 18 = .ok (.iload_n 2, 1) := by decide +kernel
theorem dX2_keep_19 : decode cX2_keep 19 = .ok (.iadd, 1) := by decide +kernel
theorem dX2_keep_20 : decode cX2_keep 20 = .ok (.aload_n 0, 1) := by decide +kernel
theorem dX2_keep_21 : decode cX2_keep 21 = .ok (.getfield 29, 3) := by decide +kernel
theorem dX2_keep_24 : decode cX2_keep 24 = .ok (.iload_n 2, 1) := by decide +kernel
theorem dX2_keep_25 : decode cX2_keep 25 = .ok (.baload, 1) := by decide +kernel
theorem dX2_keep_26 : decode cX2_keep 26 = .ok (.bastore, 1) := by decide +kernel
theorem dX2_keep_27 : decode cX2_keep 27 = .ok (.iinc 2 1, 3) := by decide +kernel
theorem dX2_keep_30 : decode cX2_keep 30 = .ok (.goto (-28), 3) := by decide +kernel
theorem dX2_keep_33 : decode cX2_keep 33 = .ok (.aload_n 0, 1) := by decide +kernel
theorem dX2_keep_34 : decode cX2_keep 34 = .ok (.iload_n 1, 1) := by decide +kernel
theorem dX2_keep_35 : decode cX2_keep 35 = .ok (.invokevirtual 91, 3) := by decide +kernel
theorem dX2_keep_38 : decode cX2_keep 38 = .ok (.ireturn, 1) := by decide +kernel
set_option maxRecDepth 20000 in
theorem ggX2_disk_X2_isSlot : GoodIn wsX2_disk wsX2_isSlot := goodIn_r _ [5, 6, 7, 4, 8] (by decide +kernel) (by decide +kernel)
set_option maxRecDepth 20000 in
theorem gX2_disk_X2_isSlot : GoodIn wsX2_disk (va_wsS RX2 88 yX2_isSlot wsX2_isSlot) := goodIn_app (goodIn_of _ (by decide +kernel)) ggX2_disk_X2_isSlot
set_option maxRecDepth 20000 in
theorem ggX2_disk_X2_isKey : GoodIn wsX2_disk wsX2_isKey := goodIn_r _ [11, 6, 7, 4, 8] (by decide +kernel) (by decide +kernel)
set_option maxRecDepth 20000 in
theorem gX2_disk_X2_isKey : GoodIn wsX2_disk (va_wsS RX2 58 yX2_isKey wsX2_isKey) := goodIn_app (goodIn_of _ (by decide +kernel)) ggX2_disk_X2_isKey
set_option maxRecDepth 20000 in
theorem ggX2_disk_X2_in : GoodIn wsX2_disk wsX2_in := goodIn_r _ [8] (by decide +kernel) (by decide +kernel)
set_option maxRecDepth 20000 in
theorem gX2_disk_X2_in : GoodIn wsX2_disk (va_wsS RX2 54 yX2_in wsX2_in) := goodIn_app (goodIn_of _ (by decide +kernel)) ggX2_disk_X2_in
set_option maxRecDepth 20000 in
theorem ggX2_disk_X2_farOf : GoodIn wsX2_disk wsX2_farOf := goodIn_r _ [15, 16, 17, 18, 19, 4, 20, 34, 35, 36, 37, 38, 39, 40, 41, 42, 43, 44, 45, 46, 47, 48] (by decide +kernel) (by decide +kernel)
set_option maxRecDepth 20000 in
theorem gX2_disk_X2_farOf : GoodIn wsX2_disk (wsV RX2 72 RX2 yX2_farOf wsX2_farOf) := goodIn_app (goodIn_of _ (by decide +kernel)) ggX2_disk_X2_farOf
set_option maxRecDepth 20000 in
theorem ggX2_disk_X2_keep : GoodIn wsX2_disk wsX2_keep := goodIn_r _ [24, 25, 1, 26, 27, 28, 4, 29, 30, 31, 32, 33, 34, 35, 36, 37, 38, 39, 40, 41, 42, 43, 44, 45, 46, 47, 48] (by decide +kernel) (by decide +kernel)
set_option maxRecDepth 20000 in
theorem gX2_disk_X2_keep : GoodIn wsX2_disk (wsV RX2 94 RX2 yX2_keep wsX2_keep) := goodIn_app (goodIn_of _ (by decide +kernel)) ggX2_disk_X2_keep
theorem dX2_disk_0 : decode cX2_disk 0 = .ok (.iload_n 1, 1) := by decide +kernel
theorem dX2_disk_1 : decode cX2_disk 1 = .ok (.invokestatic 88, 3) := by decide +kernel
theorem dX2_disk_4 : decode cX2_disk 4 = .ok (.ifCond .ne 5, 3) := by decide +kernel
theorem dX2_disk_7 : decode cX2_disk 7 = .ok (.iconst (-1), 1) := by decide +kernel
theorem dX2_disk_8 : decode cX2_disk 8 = .ok (.ireturn, 1) := by decide +kernel
theorem dX2_disk_9 : decode cX2_disk 9 = .ok (.iload_n 2, 1) := by decide +kernel
theorem dX2_disk_10 : decode cX2_disk 10 = .ok (.invokestatic 58, 3) := by decide +kernel
theorem dX2_disk_13 : decode cX2_disk 13 = .ok (.ifCond .eq 13, 3) := by decide +kernel
theorem dX2_disk_16 : decode cX2_disk 16 = .ok (.iload_n 3, 1) := by decide +kernel
theorem dX2_disk_17 : decode cX2_disk 17 = .ok (.iconst 0, 1) := by decide +kernel
theorem dX2_disk_18 : decode cX2_disk 18 = .ok (.bipush 70, 2) := by decide +kernel
theorem dX2_disk_20 : decode cX2_disk 20 = .ok (.invokestatic 54, 3) := by decide +kernel
theorem dX2_disk_23 : decode cX2_disk 23 = .ok (.ifCond .ne 6, 3) := by decide +kernel
theorem dX2_disk_26 : decode cX2_disk 26 = .ok (.bipush (-2), 2) := by decide +kernel
theorem dX2_disk_28 : decode cX2_disk 28 = .ok (.ireturn, 1) := by decide +kernel
theorem dX2_disk_29 : decode cX2_disk 29 = .ok (.iconst 0, 1) := by decide +kernel
theorem dX2_disk_30 : decode cX2_disk 30 = .ok (.istore 4, 2) := by decide +kernel
theorem dX2_disk_32 : decode cX2_disk 32 = .ok (.iload 4, 2) := by decide +kernel
theorem dX2_disk_34 : decode cX2_disk 34 = .ok (.sipush 2401, 3) := by decide +kernel
theorem dX2_disk_37 : decode cX2_disk 37 = .ok (.if_icmp .ge 32, 3) := by decide +kernel
theorem dX2_disk_40 : decode cX2_disk 40 = .ok (.aload_n 0, 1) := by decide +kernel
theorem dX2_disk_41 : decode cX2_disk 41 = .ok (.getfield 29, 3) := by decide +kernel
theorem dX2_disk_44 : decode cX2_disk 44 = .ok (.iload 4, 2) := by decide +kernel
theorem dX2_disk_46 : decode cX2_disk 46 = .ok (.aload_n 0, 1) := by decide +kernel
theorem dX2_disk_47 : decode cX2_disk 47 = .ok (.iload_n 2, 1) := by decide +kernel
theorem dX2_disk_48 : decode cX2_disk 48 = .ok (.iload 4, 2) := by decide +kernel
theorem dX2_disk_50 : decode cX2_disk 50 = .ok (.invokevirtual 72, 3) := by decide +kernel
theorem dX2_disk_53 : decode cX2_disk 53 = .ok (.iload_n 3, 1) := by decide +kernel
theorem dX2_disk_54 : decode cX2_disk 54 = .ok (.if_icmp .gt 7, 3) := by decide +kernel
theorem dX2_disk_57 : decode cX2_disk 57 = .ok (.iconst 1, 1) := by decide +kernel
theorem dX2_disk_58 : decode cX2_disk 58 = .ok (.goto 4, 3) := by decide +kernel
theorem dX2_disk_61 : decode cX2_disk 61 = .ok (.iconst 0, 1) := by decide +kernel
theorem dX2_disk_62 : decode cX2_disk 62 = .ok (.bastore, 1) := by decide +kernel
theorem dX2_disk_63 : decode cX2_disk 63 = .ok (.iinc 4 1, 3) := by decide +kernel
theorem dX2_disk_66 : decode cX2_disk 66 = .ok (.goto (-34), 3) := by decide +kernel
theorem dX2_disk_69 : decode cX2_disk 69 = .ok (.aload_n 0, 1) := by decide +kernel
theorem dX2_disk_70 : decode cX2_disk 70 = .ok (.iload_n 1, 1) := by decide +kernel
theorem dX2_disk_71 : decode cX2_disk 71 = .ok (.invokevirtual 94, 3) := by decide +kernel
theorem dX2_disk_74 : decode cX2_disk 74 = .ok (.ireturn, 1) := by decide +kernel
set_option maxRecDepth 20000 in
theorem ggX2_join_X2_isSlot : GoodIn wsX2_join wsX2_isSlot := goodIn_r _ [5, 6, 7, 4, 8] (by decide +kernel) (by decide +kernel)
set_option maxRecDepth 20000 in
theorem gX2_join_X2_isSlot : GoodIn wsX2_join (va_wsS RX2 88 yX2_isSlot wsX2_isSlot) := goodIn_app (goodIn_of _ (by decide +kernel)) ggX2_join_X2_isSlot
set_option maxRecDepth 20000 in
theorem ggX2_join_X2_in : GoodIn wsX2_join wsX2_in := goodIn_r _ [8] (by decide +kernel) (by decide +kernel)
set_option maxRecDepth 20000 in
theorem gX2_join_X2_in : GoodIn wsX2_join (va_wsS RX2 54 yX2_in wsX2_in) := goodIn_app (goodIn_of _ (by decide +kernel)) ggX2_join_X2_in
set_option maxRecDepth 20000 in
theorem ggX2_join_X2_isIn : GoodIn wsX2_join wsX2_isIn := goodIn_r _ [12, 13, 22, 23, 24, 25, 26, 27, 28, 29, 30, 31, 32, 33, 34, 35, 36] (by decide +kernel) (by decide +kernel)
set_option maxRecDepth 20000 in
theorem gX2_join_X2_isIn : GoodIn wsX2_join (wsV RX2 84 RX2 yX2_isIn wsX2_isIn) := goodIn_app (goodIn_of _ (by decide +kernel)) ggX2_join_X2_isIn
set_option maxRecDepth 20000 in
theorem ggX2_join_X2_keep : GoodIn wsX2_join wsX2_keep := goodIn_r _ [17, 13, 1, 18, 19, 20, 4, 21, 9, 10, 11, 12, 22, 23, 24, 25, 26, 27, 28, 29, 30, 31, 32, 33, 34, 35, 36] (by decide +kernel) (by decide +kernel)
set_option maxRecDepth 20000 in
theorem gX2_join_X2_keep : GoodIn wsX2_join (wsV RX2 94 RX2 yX2_keep wsX2_keep) := goodIn_app (goodIn_of _ (by decide +kernel)) ggX2_join_X2_keep
theorem dX2_join_0 : decode cX2_join 0 = .ok (.iload_n 1, 1) := by decide +kernel
theorem dX2_join_1 : decode cX2_join 1 = .ok (.invokestatic 88, 3) := by decide +kernel
theorem dX2_join_4 : decode cX2_join 4 = .ok (.ifCond .eq 17, 3) := by decide +kernel
theorem dX2_join_7 : decode cX2_join 7 = .ok (.iload_n 2, 1) := by decide +kernel
theorem dX2_join_8 : decode cX2_join 8 = .ok (.invokestatic 88, 3) := by decide +kernel
theorem dX2_join_11 : decode cX2_join 11 = .ok (.ifCond .eq 10, 3) := by decide +kernel
theorem dX2_join_14 : decode cX2_join 14 = .ok (.iload_n 3, 1) := by decide +kernel
theorem dX2_join_15 : decode cX2_join 15 = .ok (.invokestatic 88, 3) := by decide +kernel
theorem dX2_join_18 : decode cX2_join 18 = .ok (.ifCond .ne 5, 3) := by decide +kernel
theorem dX2_join_21 : decode cX2_join 21 = .ok (.iconst (-1), 1) := by decide +kernel
theorem dX2_join_22 : decode cX2_join 22 = .ok (.ireturn, 1) := by decide +kernel
theorem dX2_join_23 : decode cX2_join 23 = .ok (.iload 4, 2) := by decide +kernel
theorem dX2_join_25 : decode cX2_join 25 = .ok (.iconst 0, 1) := by decide +kernel
theorem dX2_join_26 : decode cX2_join 26 = .ok (.iconst 3, 1) := by decide +kernel
theorem dX2_join_27 : decode cX2_join 27 = .ok (.invokestatic 54, 3) := by decide +kernel
theorem dX2_join_30 : decode cX2_join 30 = .ok (.ifCond .ne 6, 3) := by decide +kernel
theorem dX2_join_33 : decode cX2_join 33 = .ok (.bipush (-2), 2) := by decide +kernel
theorem dX2_join_35 : decode cX2_join 35 = .ok (.ireturn, 1) := by decide +kernel
theorem dX2_join_36 : decode cX2_join 36 = .ok (.iconst 0, 1) := by decide +kernel
theorem dX2_join_37 : decode cX2_join 37 = .ok (.istore 5, 2) := by decide +kernel
theorem dX2_join_39 : decode cX2_join 39 = .ok (.iload 5, 2) := by decide +kernel
theorem dX2_join_41 : decode cX2_join 41 = .ok (.sipush 2401, 3) := by decide +kernel
theorem dX2_join_44 : decode cX2_join 44 = .ok (.if_icmp .ge 117, 3) := by decide +kernel
theorem dX2_join_47 : decode cX2_join 47 = .ok (.aload_n 0, 1) := by decide +kernel
theorem dX2_join_48 : decode cX2_join 48 = .ok (.iload_n 2, 1) := by decide +kernel
theorem dX2_join_49 : decode cX2_join 49 = .ok (.iload 5, 2) := by decide +kernel
theorem dX2_join_51 : decode cX2_join 51 = .ok (.invokevirtual 84, 3) := by decide +kernel
theorem dX2_join_54 : decode cX2_join 54 = .ok (.istore 6, 2) := by decide +kernel
theorem dX2_join_56 : decode cX2_join 56 = .ok (.aload_n 0, 1) := by decide +kernel
theorem dX2_join_57 : decode cX2_join 57 = .ok (.iload_n 3, 1) := by decide +kernel
theorem dX2_join_58 : decode cX2_join 58 = .ok (.iload 5, 2) := by decide +kernel
theorem dX2_join_60 : decode cX2_join 60 = .ok (.invokevirtual 84, 3) := by decide +kernel
theorem dX2_join_63 : decode cX2_join 63 = .ok (.istore 7, 2) := by decide +kernel
theorem dX2_join_65 : decode cX2_join 65 = .ok (.aload_n 0, 1) := by decide +kernel
theorem dX2_join_66 : decode cX2_join 66 = .ok (.getfield 29, 3) := by decide +kernel
theorem dX2_join_69 : decode cX2_join 69 = .ok (.iload 5, 2) := by decide +kernel
theorem dX2_join_71 : decode cX2_join 71 = .ok (.iload 4, 2) := by decide +kernel
theorem dX2_join_73 : decode cX2_join 73 = .ok (.ifCond .ne 21, 3) := by decide +kernel
theorem dX2_join_76 : decode cX2_join 76 = .ok (.iload 6, 2) := by decide +kernel
theorem dX2_join_78 : decode cX2_join 78 = .ok (.ifCond .ne 8, 3) := by decide +kernel
theorem dX2_join_81 : decode cX2_join 81 = .ok (.iload 7, 2) := by decide +kernel
theorem dX2_join_83 : decode cX2_join 83 = .ok (.ifCond .eq 7, 3) := by decide +kernel
theorem dX2_join_86 : decode cX2_join 86 = .ok (.iconst 1, 1) := by decide +kernel
theorem dX2_join_87 : decode cX2_join 87 = .ok (.goto 67, 3) := by decide +kernel
theorem dX2_join_90 : decode cX2_join 90 = .ok (.iconst 0, 1) := by decide +kernel
theorem dX2_join_91 : decode cX2_join 91 = .ok (.goto 63, 3) := by decide +kernel
theorem dX2_join_94 : decode cX2_join 94 = .ok (.iload 4, 2) := by decide +kernel
theorem dX2_join_96 : decode cX2_join 96 = .ok (.iconst 1, 1) := by decide +kernel
theorem dX2_join_97 : decode cX2_join 97 = .ok (.if_icmp .ne 21, 3) := by decide +kernel
theorem dX2_join_100 : decode cX2_join 100 = .ok (.iload 6, 2) := by decide +kernel
theorem dX2_join_102 : decode cX2_join 102 = .ok (.ifCond .eq 12, 3) := by decide +kernel
theorem dX2_join_105 : decode cX2_join 105 = .ok (.iload 7, 2) := by decide +kernel
theorem dX2_join_107 : decode cX2_join 107 = .ok (.ifCond .eq 7, 3) := by decide +kernel
theorem dX2_join_110 : decode cX2_join 110 = .ok (.iconst 1, 1) := by decide +kernel
theorem dX2_join_111 : decode cX2_join 111 = .ok (.goto 43, 3) := by decide +kernel
theorem dX2_join_114 : decode cX2_join 114 = .ok (.iconst 0, 1) := by decide +kernel
theorem dX2_join_115 : decode cX2_join 115 = .ok (.goto 39, 3) := by decide +kernel
theorem dX2_join_118 : decode cX2_join 118 = .ok (.iload 4, 2) := by decide +kernel
theorem dX2_join_120 : decode cX2_join 120 = .ok (.iconst 2, 1) := by decide +kernel
theorem dX2_join_121 : decode cX2_join 121 = .ok (.if_icmp .ne 21, 3) := by decide +kernel
theorem dX2_join_124 : decode cX2_join 124 = .ok (.iload 6, 2) := by decide +kernel
theorem dX2_join_126 : decode cX2_join 126 = .ok (.ifCond .eq 12, 3) := by decide +kernel
theorem dX2_join_129 : decode cX2_join 129 = .ok (.iload 7, 2) := by decide +kernel
theorem dX2_join_131 : decode cX2_join 131 = .ok (.ifCond .ne 7, 3) := by decide +kernel
theorem dX2_join_134 : decode cX2_join 134 = .ok (.iconst 1, 1) := by decide +kernel
theorem dX2_join_135 : decode cX2_join 135 = .ok (.goto 19, 3) := by decide +kernel
theorem dX2_join_138 : decode cX2_join 138 = .ok (.iconst 0, 1) := by decide +kernel
theorem dX2_join_139 : decode cX2_join 139 = .ok (.goto 15, 3) := by decide +kernel
theorem dX2_join_142 : decode cX2_join 142 = .ok (.iload 6, 2) := by decide +kernel
theorem dX2_join_144 : decode cX2_join 144 = .ok (.iload 7, 2) := by decide +kernel
theorem dX2_join_146 : decode cX2_join 146 = .ok (.if_icmp .eq 7, 3) := by decide +kernel
theorem dX2_join_149 : decode cX2_join 149 = .ok (.iconst 1, 1) := by decide +kernel
theorem dX2_join_150 : decode cX2_join 150 = .ok (.goto 4, 3) := by decide +kernel
theorem dX2_join_153 : decode cX2_join 153 = .ok (.iconst 0, 1) := by decide +kernel
theorem dX2_join_154 : decode cX2_join 154 = .ok (.bastore, 1) := by decide +kernel
theorem dX2_join_155 : decode cX2_join 155 = .ok (.iinc 5 1, 3) := by decide +kernel
theorem dX2_join_158 : decode cX2_join 158 = .ok (.goto (-119), 3) := by decide +kernel
theorem dX2_join_161 : decode cX2_join 161 = .ok (.aload_n 0, 1) := by decide +kernel
theorem dX2_join_162 : decode cX2_join 162 = .ok (.iload_n 1, 1) := by decide +kernel
theorem dX2_join_163 : decode cX2_join 163 = .ok (.invokevirtual 94, 3) := by decide +kernel
theorem dX2_join_166 : decode cX2_join 166 = .ok (.ireturn, 1) := by decide +kernel
set_option maxRecDepth 20000 in
theorem ggX2_nextIn_X2_nextOf : GoodIn wsX2_nextIn wsX2_nextOf := goodIn_r _ [5, 6, 7, 8, 9, 4, 10, 11, 12, 13, 14, 15, 16, 17, 18, 19, 20, 21, 27, 28, 29, 30, 31, 32, 33, 34, 35, 36, 37, 38, 39, 40, 41] (by decide +kernel) (by decide +kernel)
set_option maxRecDepth 20000 in
theorem gX2_nextIn_X2_nextOf : GoodIn wsX2_nextIn (wsV RX2 66 RX2 yX2_nextOf wsX2_nextOf) := goodIn_app (goodIn_of _ (by decide +kernel)) ggX2_nextIn_X2_nextOf
set_option maxRecDepth 20000 in
theorem ggX2_nextIn_X2_isIn : GoodIn wsX2_nextIn wsX2_isIn := goodIn_r _ [25, 26, 27, 28, 29, 30, 31, 32, 33, 34, 35, 36, 37, 38, 39, 40, 41] (by decide +kernel) (by decide +kernel)
set_option maxRecDepth 20000 in
theorem gX2_nextIn_X2_isIn : GoodIn wsX2_nextIn (wsV RX2 84 RX2 yX2_isIn wsX2_isIn) := goodIn_app (goodIn_of _ (by decide +kernel)) ggX2_nextIn_X2_isIn
theorem dX2_nextIn_0 : decode cX2_nextIn 0 = .ok (.iconst 0, 1) := by decide +kernel
theorem dX2_nextIn_1 : decode cX2_nextIn 1 = .ok (.istore_n 3, 1) := by decide +kernel
theorem dX2_nextIn_2 : decode cX2_nextIn 2 = .ok (.iconst 1, 1) := by decide +kernel
theorem dX2_nextIn_3 : decode cX2_nextIn 3 = .ok (.istore 4, 2) := by decide +kernel
theorem dX2_nextIn_5 : decode cX2_nextIn 5 = .ok (.iload 4, 2) := by decide +kernel
theorem dX2_nextIn_7 : decode cX2_nextIn 7 = .ok (.bipush 6, 2) := by decide +kernel
theorem dX2_nextIn_9 : decode cX2_nextIn 9 = .ok (.if_icmp .gt 41, 3) := by decide +kernel
theorem dX2_nextIn_12 : decode cX2_nextIn 12 = .ok (.aload_n 0, 1) := by decide +kernel
theorem dX2_nextIn_13 : decode cX2_nextIn 13 = .ok (.iload_n 2, 1) := by decide +kernel
theorem dX2_nextIn_14 : decode cX2_nextIn 14 = .ok (.iload 4, 2) := by decide +kernel
theorem dX2_nextIn_16 : decode cX2_nextIn 16 = .ok (.invokevirtual 66, 3) := by decide +kernel
theorem dX2_nextIn_19 : decode cX2_nextIn 19 = .ok (.istore 5, 2) := by decide +kernel
theorem dX2_nextIn_21 : decode cX2_nextIn 21 = .ok (.iload_n 3, 1) := by decide +kernel
theorem dX2_nextIn_22 : decode cX2_nextIn 22 = .ok (.iload 5, 2) := by decide +kernel
theorem dX2_nextIn_24 : decode cX2_nextIn 24 = .ok (.ifCond .lt 17, 3) := by decide +kernel
theorem dX2_nextIn_27 : decode cX2_nextIn 27 = .ok (.aload_n 0, 1) := by decide +kernel
theorem dX2_nextIn_28 : decode cX2_nextIn 28 = .ok (.iload_n 1, 1) := by decide +kernel
theorem dX2_nextIn_29 : decode cX2_nextIn 29 = .ok (.iload 5, 2) := by decide +kernel
theorem dX2_nextIn_31 : decode cX2_nextIn 31 = .ok (.invokevirtual 84, 3) := by decide +kernel
theorem dX2_nextIn_34 : decode cX2_nextIn 34 = .ok (.ifCond .eq 7, 3) := by decide +kernel
theorem dX2_nextIn_37 : decode cX2_nextIn 37 = .ok (.iconst 1, 1) := by decide +kernel
theorem dX2_nextIn_38 : decode cX2_nextIn 38 = .ok (.goto 4, 3) := by decide +kernel
theorem dX2_nextIn_41 : decode cX2_nextIn 41 = .ok (.iconst 0, 1) := by decide +kernel
theorem dX2_nextIn_42 : decode cX2_nextIn 42 = .ok (.iadd, 1) := by decide +kernel
theorem dX2_nextIn_43 : decode cX2_nextIn 43 = .ok (.istore_n 3, 1) := by decide +kernel
theorem dX2_nextIn_44 : decode cX2_nextIn 44 = .ok (.iinc 4 1, 3) := by decide +kernel
theorem dX2_nextIn_47 : decode cX2_nextIn 47 = .ok (.goto (-42), 3) := by decide +kernel
theorem dX2_nextIn_50 : decode cX2_nextIn 50 = .ok (.iload_n 3, 1) := by decide +kernel
theorem dX2_nextIn_51 : decode cX2_nextIn 51 = .ok (.ireturn, 1) := by decide +kernel
set_option maxRecDepth 20000 in
theorem ggX2_grow_X2_isSlot : GoodIn wsX2_grow wsX2_isSlot := goodIn_r _ [5, 6, 7, 4, 8] (by decide +kernel) (by decide +kernel)
set_option maxRecDepth 20000 in
theorem gX2_grow_X2_isSlot : GoodIn wsX2_grow (va_wsS RX2 88 yX2_isSlot wsX2_isSlot) := goodIn_app (goodIn_of _ (by decide +kernel)) ggX2_grow_X2_isSlot
set_option maxRecDepth 20000 in
theorem ggX2_grow_X2_isIn : GoodIn wsX2_grow wsX2_isIn := goodIn_r _ [12, 13, 43, 44, 45, 46, 47, 48, 49, 50, 51, 52, 53, 54, 55, 56, 57] (by decide +kernel) (by decide +kernel)
set_option maxRecDepth 20000 in
theorem gX2_grow_X2_isIn : GoodIn wsX2_grow (wsV RX2 84 RX2 yX2_isIn wsX2_isIn) := goodIn_app (goodIn_of _ (by decide +kernel)) ggX2_grow_X2_isIn
set_option maxRecDepth 20000 in
theorem ggX2_grow_X2_nextIn : GoodIn wsX2_grow wsX2_nextIn := goodIn_r _ [17, 18, 19, 20, 4, 21, 22, 23, 24, 25, 26, 27, 28, 29, 30, 31, 32, 33, 34, 6, 7, 8, 9, 10, 11, 12, 13, 43, 44, 45, 46, 47, 48, 49, 50, 51, 52, 53, 54, 55, 56, 57] (by decide +kernel) (by decide +kernel)
set_option maxRecDepth 20000 in
theorem gX2_grow_X2_nextIn : GoodIn wsX2_grow (wsV RX2 97 RX2 yX2_nextIn wsX2_nextIn) := goodIn_app (goodIn_of _ (by decide +kernel)) ggX2_grow_X2_nextIn
set_option maxRecDepth 20000 in
theorem ggX2_grow_X2_keep : GoodIn wsX2_grow wsX2_keep := goodIn_r _ [38, 13, 1, 39, 40, 41, 4, 42, 9, 10, 11, 12, 43, 44, 45, 46, 47, 48, 49, 50, 51, 52, 53, 54, 55, 56, 57] (by decide +kernel) (by decide +kernel)
set_option maxRecDepth 20000 in
theorem gX2_grow_X2_keep : GoodIn wsX2_grow (wsV RX2 94 RX2 yX2_keep wsX2_keep) := goodIn_app (goodIn_of _ (by decide +kernel)) ggX2_grow_X2_keep
theorem dX2_grow_0 : decode cX2_grow 0 = .ok (.iload_n 1, 1) := by decide +kernel
theorem dX2_grow_1 : decode cX2_grow 1 = .ok (.invokestatic 88, 3) := by decide +kernel
theorem dX2_grow_4 : decode cX2_grow 4 = .ok (.ifCond .eq 10, 3) := by decide +kernel
theorem dX2_grow_7 : decode cX2_grow 7 = .ok (.iload_n 2, 1) := by decide +kernel
theorem dX2_grow_8 : decode cX2_grow 8 = .ok (.invokestatic 88, 3) := by decide +kernel
theorem dX2_grow_11 : decode cX2_grow 11 = .ok (.ifCond .ne 5, 3) := by decide +kernel
theorem dX2_grow_14 : decode cX2_grow 14 = .ok (.iconst (-1), 1) := by decide +kernel
theorem dX2_grow_15 : decode cX2_grow 15 = .ok (.ireturn, 1) := by decide +kernel
theorem dX2_grow_16 : decode cX2_grow 16 = .ok (.iload_n 3, 1) := by decide +kernel
theorem dX2_grow_17 : decode cX2_grow 17 = .ok (.iconst 1, 1) := by decide +kernel
theorem dX2_grow_18 : decode cX2_grow 18 = .ok (.if_icmp .eq 11, 3) := by decide +kernel
theorem dX2_grow_21 : decode cX2_grow 21 = .ok (.iload_n 3, 1) := by decide +kernel
theorem dX2_grow_22 : decode cX2_grow 22 = .ok (.iconst (-1), 1) := by decide +kernel
theorem dX2_grow_23 : decode cX2_grow 23 = .ok (.if_icmp .eq 6, 3) := by decide +kernel
theorem dX2_grow_26 : decode cX2_grow 26 = .ok (.bipush (-2), 2) := by decide +kernel
theorem dX2_grow_28 : decode cX2_grow 28 = .ok (.ireturn, 1) := by decide +kernel
theorem dX2_grow_29 : decode cX2_grow 29 = .ok (.iconst 0, 1) := by decide +kernel
theorem dX2_grow_30 : decode cX2_grow 30 = .ok (.istore 4, 2) := by decide +kernel
theorem dX2_grow_32 : decode cX2_grow 32 = .ok (.iload 4, 2) := by decide +kernel
theorem dX2_grow_34 : decode cX2_grow 34 = .ok (.sipush 2401, 3) := by decide +kernel
theorem dX2_grow_37 : decode cX2_grow 37 = .ok (.if_icmp .ge 76, 3) := by decide +kernel
theorem dX2_grow_40 : decode cX2_grow 40 = .ok (.aload_n 0, 1) := by decide +kernel
theorem dX2_grow_41 : decode cX2_grow 41 = .ok (.getfield 29, 3) := by decide +kernel
theorem dX2_grow_44 : decode cX2_grow 44 = .ok (.iload 4, 2) := by decide +kernel
theorem dX2_grow_46 : decode cX2_grow 46 = .ok (.iload_n 3, 1) := by decide +kernel
theorem dX2_grow_47 : decode cX2_grow 47 = .ok (.iconst 1, 1) := by decide +kernel
theorem dX2_grow_48 : decode cX2_grow 48 = .ok (.if_icmp .ne 31, 3) := by decide +kernel
theorem dX2_grow_51 : decode cX2_grow 51 = .ok (.aload_n 0, 1) := by decide +kernel
theorem dX2_grow_52 : decode cX2_grow 52 = .ok (.iload_n 2, 1) := by decide +kernel
theorem dX2_grow_53 : decode cX2_grow 53 = .ok (.iload 4, 2) := by decide +kernel
theorem dX2_grow_55 : decode cX2_grow 55 = .ok (.invokevirtual 84, 3) := by decide +kernel
theorem dX2_grow_58 : decode cX2_grow 58 = .ok (.ifCond .ne 13, 3) := by decide +kernel
theorem dX2_grow_61 : decode cX2_grow 61 = .ok (.aload_n 0, 1) := by decide +kernel
theorem dX2_grow_62 : decode cX2_grow 62 = .ok (.iload_n 2, 1) := by decide +kernel
theorem dX2_grow_63 : decode cX2_grow 63 = .ok (.iload 4, 2) := by decide +kernel
theorem dX2_grow_65 : decode cX2_grow 65 = .ok (.invokevirtual 97, 3) := by decide +kernel
theorem dX2_grow_68 : decode cX2_grow 68 = .ok (.ifCond .le 7, 3) := by decide +kernel
theorem dX2_grow_71 : decode cX2_grow 71 = .ok (.iconst 1, 1) := by decide +kernel
theorem dX2_grow_72 : decode cX2_grow 72 = .ok (.goto 34, 3) := by decide +kernel
theorem dX2_grow_75 : decode cX2_grow 75 = .ok (.iconst 0, 1) := by decide +kernel
theorem dX2_grow_76 : decode cX2_grow 76 = .ok (.goto 30, 3) := by decide +kernel
theorem dX2_grow_79 : decode cX2_grow 79 = .ok (.aload_n 0, 1) := by decide +kernel
theorem dX2_grow_80 : decode cX2_grow 80 = .ok (.iload_n 2, 1) := by decide +kernel
theorem dX2_grow_81 : decode cX2_grow 81 = .ok (.iload 4, 2) := by decide +kernel
theorem dX2_grow_83 : decode cX2_grow 83 = .ok (.invokevirtual 84, 3) := by decide +kernel
theorem dX2_grow_86 : decode cX2_grow 86 = .ok (.ifCond .eq 19, 3) := by decide +kernel
theorem dX2_grow_89 : decode cX2_grow 89 = .ok (.aload_n 0, 1) := by decide +kernel
theorem dX2_grow_90 : decode cX2_grow 90 = .ok (.iload_n 2, 1) := by decide +kernel
theorem dX2_grow_91 : decode cX2_grow 91 = .ok (.iload 4, 2) := by decide +kernel
theorem dX2_grow_93 : decode cX2_grow 93 = .ok (.invokevirtual 97, 3) := by decide +kernel
theorem dX2_grow_96 : decode cX2_grow 96 = .ok (.bipush 6, 2) := by decide +kernel
theorem dX2_grow_98 : decode cX2_grow 98 = .ok (.if_icmp .ne 7, 3) := by decide +kernel
theorem dX2_grow_101 : decode cX2_grow 101 = .ok (.iconst 1, 1) := by decide +kernel
theorem dX2_grow_102 : decode cX2_grow 102 = .ok (.goto 4, 3) := by decide +kernel
theorem dX2_grow_105 : decode cX2_grow 105 = .ok (.iconst 0, 1) := by decide +kernel
theorem dX2_grow_106 : decode cX2_grow 106 = .ok (.bastore, 1) := by decide +kernel
theorem dX2_grow_107 : decode cX2_grow 107 = .ok (.iinc 4 1, 3) := by decide +kernel
theorem dX2_grow_110 : decode cX2_grow 110 = .ok (.goto (-78), 3) := by decide +kernel
theorem dX2_grow_113 : decode cX2_grow 113 = .ok (.aload_n 0, 1) := by decide +kernel
theorem dX2_grow_114 : decode cX2_grow 114 = .ok (.iload_n 1, 1) := by decide +kernel
theorem dX2_grow_115 : decode cX2_grow 115 = .ok (.invokevirtual 94, 3) := by decide +kernel
theorem dX2_grow_118 : decode cX2_grow 118 = .ok (.ireturn, 1) := by decide +kernel
set_option maxRecDepth 20000 in
theorem ggX2_has_X2_isSlot : GoodIn wsX2_has wsX2_isSlot := goodIn_r _ [4, 5, 6, 3, 7] (by decide +kernel) (by decide +kernel)
set_option maxRecDepth 20000 in
theorem gX2_has_X2_isSlot : GoodIn wsX2_has (va_wsS RX2 88 yX2_isSlot wsX2_isSlot) := goodIn_app (goodIn_of _ (by decide +kernel)) ggX2_has_X2_isSlot
set_option maxRecDepth 20000 in
theorem ggX2_has_X2_isKey : GoodIn wsX2_has wsX2_isKey := goodIn_r _ [10, 5, 6, 3, 7] (by decide +kernel) (by decide +kernel)
set_option maxRecDepth 20000 in
theorem gX2_has_X2_isKey : GoodIn wsX2_has (va_wsS RX2 58 yX2_isKey wsX2_isKey) := goodIn_app (goodIn_of _ (by decide +kernel)) ggX2_has_X2_isKey
set_option maxRecDepth 20000 in
theorem ggX2_has_X2_isIn : GoodIn wsX2_has wsX2_isIn := goodIn_r _ [14, 15, 16, 17, 18, 19, 20, 21, 22, 23, 24, 25, 26, 27, 28, 29, 30] (by decide +kernel) (by decide +kernel)
set_option maxRecDepth 20000 in
theorem gX2_has_X2_isIn : GoodIn wsX2_has (wsV RX2 84 RX2 yX2_isIn wsX2_isIn) := goodIn_app (goodIn_of _ (by decide +kernel)) ggX2_has_X2_isIn
theorem dX2_has_0 : decode cX2_has 0 = .ok (.iload_n 1, 1) := by decide +kernel
theorem dX2_has_1 : decode cX2_has 1 = .ok (.invokestatic 88, 3) := by decide +kernel
theorem dX2_has_4 : decode cX2_has 4 = .ok (.ifCond .ne 5, 3) := by decide +kernel
theorem dX2_has_7 : decode cX2_has 7 = .ok (.iconst (-1), 1) := by decide +kernel
theorem dX2_has_8 : decode cX2_has 8 = .ok (.ireturn, 1) := by decide +kernel
theorem dX2_has_9 : decode cX2_has 9 = .ok (.iload_n 2, 1) := by decide +kernel
theorem dX2_has_10 : decode cX2_has 10 = .ok (.invokestatic 58, 3) := by decide +kernel
theorem dX2_has_13 : decode cX2_has 13 = .ok (.ifCond .ne 8, 3) := by decide +kernel
theorem dX2_has_16 : decode cX2_has 16 = .ok (.bipush (-2), 2) := by decide +kernel
theorem dX2_has_18 : decode cX2_has 18 = .ok (.goto 17, 3) := by decide +kernel
theorem dX2_has_21 : decode cX2_has 21 = .ok (.aload_n 0, 1) := by decide +kernel
theorem dX2_has_22 : decode cX2_has 22 = .ok (.iload_n 1, 1) := by decide +kernel
theorem dX2_has_23 : decode cX2_has 23 = .ok (.iload_n 2, 1) := by decide +kernel
theorem dX2_has_24 : decode cX2_has 24 = .ok (.invokevirtual 84, 3) := by decide +kernel
theorem dX2_has_27 : decode cX2_has 27 = .ok (.ifCond .eq 7, 3) := by decide +kernel
theorem dX2_has_30 : decode cX2_has 30 = .ok (.iconst 1, 1) := by decide +kernel
theorem dX2_has_31 : decode cX2_has 31 = .ok (.goto 4, 3) := by decide +kernel
theorem dX2_has_34 : decode cX2_has 34 = .ok (.iconst 0, 1) := by decide +kernel
theorem dX2_has_35 : decode cX2_has 35 = .ok (.ireturn, 1) := by decide +kernel
set_option maxRecDepth 20000 in
theorem ggX2_isWhole_X2_hexes : GoodIn wsX2_isWhole wsX2_hexes := goodIn_r _ [4] (by decide +kernel) (by decide +kernel)
set_option maxRecDepth 20000 in
theorem gX2_isWhole_X2_hexes : GoodIn wsX2_isWhole (va_wsS RX2 75 yX2_hexes wsX2_hexes) := goodIn_app (goodIn_of _ (by decide +kernel)) ggX2_isWhole_X2_hexes
set_option maxRecDepth 20000 in
theorem ggX2_isWhole_X2_isIn : GoodIn wsX2_isWhole wsX2_isIn := goodIn_r _ [8, 9, 10, 11, 12, 13, 14, 15, 16, 17, 18, 19, 20, 21, 22, 23, 24] (by decide +kernel) (by decide +kernel)
set_option maxRecDepth 20000 in
theorem gX2_isWhole_X2_isIn : GoodIn wsX2_isWhole (wsV RX2 84 RX2 yX2_isIn wsX2_isIn) := goodIn_app (goodIn_of _ (by decide +kernel)) ggX2_isWhole_X2_isIn
theorem dX2_isWhole_0 : decode cX2_isWhole 0 = .ok (.iconst 1, 1) := by decide +kernel
theorem dX2_isWhole_1 : decode cX2_isWhole 1 = .ok (.istore 4, 2) := by decide +kernel
theorem dX2_isWhole_3 : decode cX2_isWhole 3 = .ok (.iload_n 2, 1) := by decide +kernel
theorem dX2_isWhole_4 : decode cX2_isWhole 4 = .ok (.istore 5, 2) := by decide +kernel
theorem dX2_isWhole_6 : decode cX2_isWhole 6 = .ok (.iload 5, 2) := by decide +kernel
theorem dX2_isWhole_8 : decode cX2_isWhole 8 = .ok (.iload_n 2, 1) := by decide +kernel
theorem dX2_isWhole_9 : decode cX2_isWhole 9 = .ok (.iload_n 3, 1) := by decide +kernel
theorem dX2_isWhole_10 : decode cX2_isWhole 10 = .ok (.invokestatic 75, 3) := by decide +kernel
theorem dX2_isWhole_13 : decode cX2_isWhole 13 = .ok (.iadd, 1) := by decide +kernel
theorem dX2_isWhole_14 : decode cX2_isWhole 14 = .ok (.if_icmp .ge 23, 3) := by decide +kernel
theorem dX2_isWhole_17 : decode cX2_isWhole 17 = .ok (.iload 4, 2) := by decide +kernel
theorem dX2_isWhole_19 : decode cX2_isWhole 19 = .ok (.ifCond .eq 18, 3) := by decide +kernel
theorem dX2_isWhole_22 : decode cX2_isWhole 22 = .ok (.aload_n 0, 1) := by decide +kernel
theorem dX2_isWhole_23 : decode cX2_isWhole 23 = .ok (.iload_n 1, 1) := by decide +kernel
theorem dX2_isWhole_24 : decode cX2_isWhole 24 = .ok (.iload 5, 2) := by decide +kernel
theorem dX2_isWhole_26 : decode cX2_isWhole 26 = .ok (.invokevirtual 84, 3) := by decide +kernel
theorem dX2_isWhole_29 : decode cX2_isWhole 29 = .ok (.istore 4, 2) := by decide +kernel
theorem dX2_isWhole_31 : decode cX2_isWhole 31 = .ok (.iinc 5 1, 3) := by decide +kernel
theorem dX2_isWhole_34 : decode cX2_isWhole 34 = .ok (.goto (-28), 3) := by decide +kernel
theorem dX2_isWhole_37 : decode cX2_isWhole 37 = .ok (.iload 4, 2) := by decide +kernel
theorem dX2_isWhole_39 : decode cX2_isWhole 39 = .ok (.ireturn, 1) := by decide +kernel
set_option maxRecDepth 20000 in
theorem ggX2_pack_X2_patchOf : GoodIn wsX2_pack wsX2_patchOf := goodIn_r _ [7, 8, 9, 6, 10] (by decide +kernel) (by decide +kernel)
set_option maxRecDepth 20000 in
theorem gX2_pack_X2_patchOf : GoodIn wsX2_pack (va_wsS RX2 81 yX2_patchOf wsX2_patchOf) := goodIn_app (goodIn_of _ (by decide +kernel)) ggX2_pack_X2_patchOf
set_option maxRecDepth 20000 in
theorem ggX2_pack_X2_isWhole : GoodIn wsX2_pack wsX2_isWhole := goodIn_r _ [14, 8, 9, 6, 10, 15, 16, 17, 18, 19, 20, 21, 22, 23, 24, 25, 26, 27, 28, 29, 30, 31, 32, 33, 34] (by decide +kernel) (by decide +kernel)
set_option maxRecDepth 20000 in
theorem gX2_pack_X2_isWhole : GoodIn wsX2_pack (wsV RX2 104 RX2 yX2_isWhole wsX2_isWhole) := goodIn_app (goodIn_of _ (by decide +kernel)) ggX2_pack_X2_isWhole
set_option maxRecDepth 20000 in
theorem ggX2_pack_X2_hexes : GoodIn wsX2_pack wsX2_hexes := goodIn_r _ [10] (by decide +kernel) (by decide +kernel)
set_option maxRecDepth 20000 in
theorem gX2_pack_X2_hexes : GoodIn wsX2_pack (va_wsS RX2 75 yX2_hexes wsX2_hexes) := goodIn_app (goodIn_of _ (by decide +kernel)) ggX2_pack_X2_hexes
theorem dX2_pack_0 : decode cX2_pack 0 = .ok (.aload_n 0, 1) := by decide +kernel
theorem dX2_pack_1 : decode cX2_pack 1 = .ok (.iconst 0, 1) := by decide +kernel
theorem dX2_pack_2 : decode cX2_pack 2 = .ok (.putfield 100, 3) := by decide +kernel
theorem dX2_pack_5 : decode cX2_pack 5 = .ok (.iconst 0, 1) := by decide +kernel
theorem dX2_pack_6 : decode cX2_pack 6 = .ok (.istore_n 2, 1) := by decide +kernel
theorem dX2_pack_7 : decode cX2_pack 7 = .ok (.iload_n 2, 1) := by decide +kernel
theorem dX2_pack_8 : decode cX2_pack 8 = .ok (.sipush 2401, 3) := by decide +kernel
theorem dX2_pack_11 : decode cX2_pack 11 = .ok (.if_icmp .ge 86, 3) := by decide +kernel
theorem dX2_pack_14 : decode cX2_pack 14 = .ok (.iconst 4, 1) := by decide +kernel
theorem dX2_pack_15 : decode cX2_pack 15 = .ok (.istore_n 3, 1) := by decide +kernel
theorem dX2_pack_16 : decode cX2_pack 16 = .ok (.iload_n 3, 1) := by decide +kernel
theorem dX2_pack_17 : decode cX2_pack 17 = .ok (.ifCond .lt 28, 3) := by decide +kernel
theorem dX2_pack_20 : decode cX2_pack 20 = .ok (.iload_n 2, 1) := by decide +kernel
theorem dX2_pack_21 : decode cX2_pack 21 = .ok (.iload_n 3, 1) := by decide +kernel
theorem dX2_pack_22 : decode cX2_pack 22 = .ok (.invokestatic 81, 3) := by decide +kernel
theorem dX2_pack_25 : decode cX2_pack 25 = .ok (.iload_n 2, 1) := by decide +kernel
theorem dX2_pack_26 : decode cX2_pack 26 = .ok (.if_icmp .ne 13, 3) := by decide +kernel
theorem dX2_pack_29 : decode cX2_pack 29 = .ok (.aload_n 0, 1) := by decide +kernel
theorem dX2_pack_30 : decode cX2_pack 30 = .ok (.iload_n 1, 1) := by decide +kernel
theorem dX2_pack_31 : decode cX2_pack 31 = .ok (.iload_n 2, 1) := by decide +kernel
theorem dX2_pack_32 : decode cX2_pack 32 = .ok (.iload_n 3, 1) := by decide +kernel
theorem dX2_pack_33 : decode cX2_pack 33 = .ok (.invokevirtual 104, 3) := by decide +kernel
theorem dX2_pack_36 : decode cX2_pack 36 = .ok (.ifCond .ne 9, 3) := by decide +kernel
theorem dX2_pack_39 : decode cX2_pack 39 = .ok (.iinc 3 (-1), 3) := by decide +kernel
theorem dX2_pack_42 : decode cX2_pack 42 = .ok (.goto (-26), 3) := by decide +kernel
theorem dX2_pack_45 : decode cX2_pack 45 = .ok (.iload_n 3, 1) := by decide +kernel
theorem dX2_pack_46 : decode cX2_pack 46 = .ok (.ifCond .lt 33, 3) := by decide +kernel
theorem dX2_pack_49 : decode cX2_pack 49 = .ok (.aload_n 0, 1) := by decide +kernel
theorem dX2_pack_50 : decode cX2_pack 50 = .ok (.getfield 32, 3) := by decide +kernel
theorem dX2_pack_53 : decode cX2_pack 53 = .ok (.aload_n 0, 1) := by decide +kernel
theorem dX2_pack_54 : decode cX2_pack 54 = .ok (.getfield 100, 3) := by decide +kernel
theorem dX2_pack_57 : decode cX2_pack 57 = .ok (.iload_n 2, 1) := by decide +kernel
theorem dX2_pack_58 : decode cX2_pack 58 = .ok (.iastore, 1) := by decide +kernel
theorem dX2_pack_59 : decode cX2_pack 59 = .ok (.aload_n 0, 1) := by decide +kernel
theorem dX2_pack_60 : decode cX2_pack 60 = .ok (.getfield 35, 3) := by decide +kernel
theorem dX2_pack_63 : decode cX2_pack 63 = .ok (.aload_n 0, 1) := by decide +kernel
theorem dX2_pack_64 : decode cX2_pack 64 = .ok (.getfield 100, 3) := by decide +kernel
theorem dX2_pack_67 : decode cX2_pack 67 = .ok (.iload_n 3, 1) := by decide +kernel
theorem dX2_pack_68 : decode cX2_pack 68 = .ok (.iastore, 1) := by decide +kernel
theorem dX2_pack_69 : decode cX2_pack 69 = .ok (.aload_n 0, 1) := by decide +kernel
theorem dX2_pack_70 : decode cX2_pack 70 = .ok (.dup, 1) := by decide +kernel
theorem dX2_pack_71 : decode cX2_pack 71 = .ok (.getfield 100, 3) := by decide +kernel
theorem dX2_pack_74 : decode cX2_pack 74 = .ok (.iconst 1, 1) := by decide +kernel
theorem dX2_pack_75 : decode cX2_pack 75 = .ok (.iadd, 1) := by decide +kernel
theorem dX2_pack_76 : decode cX2_pack 76 = .ok (.putfield 100, 3) := by decide +kernel
theorem dX2_pack_79 : decode cX2_pack 79 = .ok (.iload_n 2, 1) := by decide +kernel
theorem dX2_pack_80 : decode cX2_pack 80 = .ok (.iload_n 3, 1) := by decide +kernel
theorem dX2_pack_81 : decode cX2_pack 81 = .ok (.ifCond .le 10, 3) := by decide +kernel
theorem dX2_pack_84 : decode cX2_pack 84 = .ok (.iload_n 3, 1) := by decide +kernel
theorem dX2_pack_85 : decode cX2_pack 85 = .ok (.invokestatic 75, 3) := by decide +kernel
theorem dX2_pack_88 : decode cX2_pack 88 = .ok (.goto 4, 3) := by decide +kernel
theorem dX2_pack_91 : decode cX2_pack 91 = .ok (.iconst 1, 1) := by decide +kernel
theorem dX2_pack_92 : decode cX2_pack 92 = .ok (.iadd, 1) := by decide +kernel
theorem dX2_pack_93 : decode cX2_pack 93 = .ok (.istore_n 2, 1) := by decide +kernel
theorem dX2_pack_94 : decode cX2_pack 94 = .ok (.goto (-87), 3) := by decide +kernel
theorem dX2_pack_97 : decode cX2_pack 97 = .ok (.return_, 1) := by decide +kernel
set_option maxRecDepth 20000 in
theorem ggX2_border_X2_isIn : GoodIn wsX2_border wsX2_isIn := goodIn_r _ [5, 6, 31, 32, 33, 34, 35, 36, 37, 38, 39, 40, 41, 42, 43, 44, 45] (by decide +kernel) (by decide +kernel)
set_option maxRecDepth 20000 in
theorem gX2_border_X2_isIn : GoodIn wsX2_border (wsV RX2 84 RX2 yX2_isIn wsX2_isIn) := goodIn_app (goodIn_of _ (by decide +kernel)) ggX2_border_X2_isIn
set_option maxRecDepth 20000 in
theorem ggX2_border_X2_nextIn : GoodIn wsX2_border wsX2_nextIn := goodIn_r _ [10, 11, 12, 13, 4, 14, 15, 16, 17, 18, 19, 20, 21, 22, 23, 24, 25, 26, 27, 28, 29, 30, 1, 2, 3, 5, 6, 31, 32, 33, 34, 35, 36, 37, 38, 39, 40, 41, 42, 43, 44, 45] (by decide +kernel) (by decide +kernel)
set_option maxRecDepth 20000 in
theorem gX2_border_X2_nextIn : GoodIn wsX2_border (wsV RX2 97 RX2 yX2_nextIn wsX2_nextIn) := goodIn_app (goodIn_of _ (by decide +kernel)) ggX2_border_X2_nextIn
theorem dX2_border_0 : decode cX2_border 0 = .ok (.iconst 0, 1) := by decide +kernel
theorem dX2_border_1 : decode cX2_border 1 = .ok (.istore_n 2, 1) := by decide +kernel
theorem dX2_border_2 : decode cX2_border 2 = .ok (.iconst 0, 1) := by decide +kernel
theorem dX2_border_3 : decode cX2_border 3 = .ok (.istore_n 3, 1) := by decide +kernel
theorem dX2_border_4 : decode cX2_border 4 = .ok (.iload_n 3, 1) := by decide +kernel
theorem dX2_border_5 : decode cX2_border 5 = .ok (.sipush 2401, 3) := by decide +kernel
theorem dX2_border_8 : decode cX2_border 8 = .ok (.if_icmp .ge 34, 3) := by decide +kernel
theorem dX2_border_11 : decode cX2_border 11 = .ok (.iload_n 2, 1) := by decide +kernel
theorem dX2_border_12 : decode cX2_border 12 = .ok (.aload_n 0, 1) := by decide +kernel
theorem dX2_border_13 : decode cX2_border 13 = .ok (.iload_n 1, 1) := by decide +kernel
theorem dX2_border_14 : decode cX2_border 14 = .ok (.iload_n 3, 1) := by decide +kernel
theorem dX2_border_15 : decode cX2_border 15 = .ok (.invokevirtual 84, 3) := by decide +kernel
theorem dX2_border_18 : decode cX2_border 18 = .ok (.ifCond .eq 15, 3) := by decide +kernel
theorem dX2_border_21 : decode cX2_border 21 = .ok (.bipush 6, 2) := by decide +kernel
theorem dX2_border_23 : decode cX2_border 23 = .ok (.aload_n 0, 1) := by decide +kernel
theorem dX2_border_24 : decode cX2_border 24 = .ok (.iload_n 1, 1) := by decide +kernel
theorem dX2_border_25 : decode cX2_border 25 = .ok (.iload_n 3, 1) := by decide +kernel
theorem dX2_border_26 : decode cX2_border 26 = .ok (.invokevirtual 97, 3) := by decide +kernel
theorem dX2_border_29 : decode cX2_border 29 = .ok (.isub, 1) := by decide +kernel
theorem dX2_border_30 : decode cX2_border 30 = .ok (.goto 4, 3) := by decide +kernel
theorem dX2_border_33 : decode cX2_border 33 = .ok (.iconst 0, 1) := by decide +kernel
theorem dX2_border_34 : decode cX2_border 34 = .ok (.iadd, 1) := by decide +kernel
theorem dX2_border_35 : decode cX2_border 35 = .ok (.istore_n 2, 1) := by decide +kernel
theorem dX2_border_36 : decode cX2_border 36 = .ok (.iinc 3 1, 3) := by decide +kernel
theorem dX2_border_39 : decode cX2_border 39 = .ok (.goto (-35), 3) := by decide +kernel
theorem dX2_border_42 : decode cX2_border 42 = .ok (.iload_n 2, 1) := by decide +kernel
theorem dX2_border_43 : decode cX2_border 43 = .ok (.ireturn, 1) := by decide +kernel
set_option maxRecDepth 20000 in
theorem ggX2_spread_X2_nextOf : GoodIn wsX2_spread wsX2_nextOf := goodIn_r _ [9, 10, 11, 12, 13, 8, 14, 15, 16, 17, 18, 19, 20, 21, 22, 23, 24, 25, 31, 32, 33, 34, 35, 36, 37, 38, 39, 40, 41, 42, 43, 44, 45] (by decide +kernel) (by decide +kernel)
set_option maxRecDepth 20000 in
theorem gX2_spread_X2_nextOf : GoodIn wsX2_spread (wsV RX2 66 RX2 yX2_nextOf wsX2_nextOf) := goodIn_app (goodIn_of _ (by decide +kernel)) ggX2_spread_X2_nextOf
set_option maxRecDepth 20000 in
theorem ggX2_spread_X2_isIn : GoodIn wsX2_spread wsX2_isIn := goodIn_r _ [29, 30, 31, 32, 33, 34, 35, 36, 37, 38, 39, 40, 41, 42, 43, 44, 45] (by decide +kernel) (by decide +kernel)
set_option maxRecDepth 20000 in
theorem gX2_spread_X2_isIn : GoodIn wsX2_spread (wsV RX2 84 RX2 yX2_isIn wsX2_isIn) := goodIn_app (goodIn_of _ (by decide +kernel)) ggX2_spread_X2_isIn
theorem dX2_spread_0 : decode cX2_spread 0 = .ok (.aload_n 0, 1) := by decide +kernel
theorem dX2_spread_1 : decode cX2_spread 1 = .ok (.iconst 1, 1) := by decide +kernel
theorem dX2_spread_2 : decode cX2_spread 2 = .ok (.putfield 107, 3) := by decide +kernel
theorem dX2_spread_5 : decode cX2_spread 5 = .ok (.aload_n 0, 1) := by decide +kernel
theorem dX2_spread_6 : decode cX2_spread 6 = .ok (.getfield 44, 3) := by decide +kernel
theorem dX2_spread_9 : decode cX2_spread 9 = .ok (.iconst 0, 1) := by decide +kernel
theorem dX2_spread_10 : decode cX2_spread 10 = .ok (.iload_n 2, 1) := by decide +kernel
theorem dX2_spread_11 : decode cX2_spread 11 = .ok (.iastore, 1) := by decide +kernel
theorem dX2_spread_12 : decode cX2_spread 12 = .ok (.aload_n 0, 1) := by decide +kernel
theorem dX2_spread_13 : decode cX2_spread 13 = .ok (.getfield 38, 3) := by decide +kernel
theorem dX2_spread_16 : decode cX2_spread 16 = .ok (.iload_n 2, 1) := by decide +kernel
theorem dX2_spread_17 : decode cX2_spread 17 = .ok (.iload_n 3, 1) := by decide +kernel
theorem dX2_spread_18 : decode cX2_spread 18 = .ok (.iastore, 1) := by decide +kernel
theorem dX2_spread_19 : decode cX2_spread 19 = .ok (.aload_n 0, 1) := by decide +kernel
theorem dX2_spread_20 : decode cX2_spread 20 = .ok (.getfield 41, 3) := by decide +kernel
theorem dX2_spread_23 : decode cX2_spread 23 = .ok (.iload_n 2, 1) := by decide +kernel
theorem dX2_spread_24 : decode cX2_spread 24 = .ok (.iconst 0, 1) := by decide +kernel
theorem dX2_spread_25 : decode cX2_spread 25 = .ok (.iastore, 1) := by decide +kernel
theorem dX2_spread_26 : decode cX2_spread 26 = .ok (.iconst 0, 1) := by decide +kernel
theorem dX2_spread_27 : decode cX2_spread 27 = .ok (.istore 4, 2) := by decide +kernel
theorem dX2_spread_29 : decode cX2_spread 29 = .ok (.iload 4, 2) := by decide +kernel
theorem dX2_spread_31 : decode cX2_spread 31 = .ok (.aload_n 0, 1) := by decide +kernel
theorem dX2_spread_32 : decode cX2_spread 32 = .ok (.getfield 107, 3) := by decide +kernel
theorem dX2_spread_35 : decode cX2_spread 35 = .ok (.if_icmp .ge 115, 3) := by decide +kernel
theorem dX2_spread_38 : decode cX2_spread 38 = .ok (.iconst 1, 1) := by decide +kernel
theorem dX2_spread_39 : decode cX2_spread 39 = .ok (.istore 5, 2) := by decide +kernel
theorem dX2_spread_41 : decode cX2_spread 41 = .ok (.iload 5, 2) := by decide +kernel
theorem dX2_spread_43 : decode cX2_spread 43 = .ok (.bipush 6, 2) := by decide +kernel
theorem dX2_spread_45 : decode cX2_spread 45 = .ok (.if_icmp .gt 99, 3) := by decide +kernel
theorem dX2_spread_48 : decode cX2_spread 48 = .ok (.aload_n 0, 1) := by decide +kernel
theorem dX2_spread_49 : decode cX2_spread 49 = .ok (.aload_n 0, 1) := by decide +kernel
theorem dX2_spread_50 : decode cX2_spread 50 = .ok (.getfield 44, 3) := by decide +kernel
theorem dX2_spread_53 : decode cX2_spread 53 = .ok (.iload 4, 2) := by decide +kernel
theorem dX2_spread_55 : decode cX2_spread 55 = .ok (.iaload, 1) := by decide +kernel
theorem dX2_spread_56 : decode cX2_spread 56 = .ok (.iload 5, 2) := by decide +kernel
theorem dX2_spread_58 : decode cX2_spread 58 = .ok (.invokevirtual 66, 3) := by decide +kernel
theorem dX2_spread_61 : decode cX2_spread 61 = .ok (.istore 6, 2) := by decide +kernel
theorem dX2_spread_63 : decode cX2_spread 63 = .ok (.iload 6, 2) := by decide +kernel
theorem dX2_spread_65 : decode cX2_spread 65 = .ok (.ifCond .lt 73, 3) := by decide +kernel
theorem dX2_spread_68 : decode cX2_spread 68 = .ok (.aload_n 0, 1) := by decide +kernel
theorem dX2_spread_69 : decode cX2_spread 69 = .ok (.iload_n 1, 1) := by decide +kernel
theorem dX2_spread_70 : decode cX2_spread 70 = .ok (.iload 6, 2) := by decide +kernel
theorem dX2_spread_72 : decode cX2_spread 72 = .ok (.invokevirtual 84, 3) := by decide +kernel
theorem dX2_spread_75 : decode cX2_spread 75 = .ok (.ifCond .eq 63, 3) := by decide +kernel
theorem dX2_spread_78 : decode cX2_spread 78 = .ok (.aload_n 0, 1) := by decide +kernel
theorem dX2_spread_79 : decode cX2_spread 79 = .ok (.getfield 38, 3) := by decide +kernel
theorem dX2_spread_82 : decode cX2_spread 82 = .ok (.iload 6, 2) := by decide +kernel
theorem dX2_spread_84 : decode cX2_spread 84 = .ok (.iaload, 1) := by decide +kernel
theorem dX2_spread_85 : decode cX2_spread 85 = .ok (.ifCond .ge 53, 3) := by decide +kernel
theorem dX2_spread_88 : decode cX2_spread 88 = .ok (.aload_n 0, 1) := by decide +kernel
theorem dX2_spread_89 : decode cX2_spread 89 = .ok (.getfield 38, 3) := by decide +kernel
theorem dX2_spread_92 : decode cX2_spread 92 = .ok (.iload 6, 2) := by decide +kernel
theorem dX2_spread_94 : decode cX2_spread 94 = .ok (.iload_n 3, 1) := by decide +kernel
theorem dX2_spread_95 : decode cX2_spread 95 = .ok (.iastore, 1) := by decide +kernel
theorem dX2_spread_96 : decode cX2_spread 96 = .ok (.aload_n 0, 1) := by decide +kernel
theorem dX2_spread_97 : decode cX2_spread 97 = .ok (.getfield 41, 3) := by decide +kernel
theorem dX2_spread_100 : decode cX2_spread 100 = .ok (.iload 6, 2) := by decide +kernel
theorem dX2_spread_102 : decode cX2_spread 102 = .ok (.aload_n 0, 1) := by decide +kernel
theorem dX2_spread_103 : decode cX2_spread 103 = .ok (.getfield 41, 3) := by decide +kernel
theorem dX2_spread_106 : decode cX2_spread 106 = .ok (.aload_n 0, 1) := by decide +kernel
theorem dX2_spread_107 : decode cX2_spread 107 = .ok (.getfield 44, 3) := by decide +kernel
theorem dX2_spread_110 : decode cX2_spread 110 = .ok (.iload 4, 2) := by decide +kernel
theorem dX2_spread_112 : decode cX2_spread 112 = .ok (.iaload, 1) := by decide +kernel
theorem dX2_spread_113 : decode cX2_spread 113 = .ok (.iaload, 1) := by decide +kernel
theorem dX2_spread_114 : decode cX2_spread 114 = .ok (.iconst 1, 1) := by decide +kernel
theorem dX2_spread_115 : decode cX2_spread 115 = .ok (.iadd, 1) := by decide +kernel
theorem dX2_spread_116 : decode cX2_spread 116 = .ok (.iastore, 1) := by decide +kernel
theorem dX2_spread_117 : decode cX2_spread 117 = .ok (.aload_n 0, 1) := by decide +kernel
theorem dX2_spread_118 : decode cX2_spread 118 = .ok (.getfield 44, 3) := by decide +kernel
theorem dX2_spread_121 : decode cX2_spread 121 = .ok (.aload_n 0, 1) := by decide +kernel
theorem dX2_spread_122 : decode cX2_spread 122 = .ok (.getfield 107, 3) := by decide +kernel
theorem dX2_spread_125 : decode cX2_spread 125 = .ok (.iload 6, 2) := by decide +kernel
theorem dX2_spread_127 : decode cX2_spread 127 = .ok (.iastore, 1) := by decide +kernel
theorem dX2_spread_128 : decode cX2_spread 128 = .ok (.aload_n 0, 1) := by decide +kernel
theorem dX2_spread_129 : decode cX2_spread 129 = .ok (.dup, 1) := by decide +kernel
theorem dX2_spread_130 : decode cX2_spread 130 = .ok (.getfield 107, 3) := by decide +kernel
theorem dX2_spread_133 : decode cX2_spread 133 = .ok (.iconst 1, 1) := by decide +kernel
theorem dX2_spread_134 : decode cX2_spread 134 = .ok (.iadd, 1) := by decide +kernel
theorem dX2_spread_135 : decode cX2_spread 135 = .ok (.putfield 107, 3) := by decide +kernel
theorem dX2_spread_138 : decode cX2_spread 138 = .ok (.iinc 5 1, 3) := by decide +kernel
theorem dX2_spread_141 : decode cX2_spread 141 = .ok (.goto (-100), 3) := by decide +kernel
theorem dX2_spread_144 : decode cX2_spread 144 = .ok (.iinc 4 1, 3) := by decide +kernel
theorem dX2_spread_147 : decode cX2_spread 147 = .ok (.goto (-118), 3) := by decide +kernel
theorem dX2_spread_150 : decode cX2_spread 150 = .ok (.aload_n 0, 1) := by decide +kernel
theorem dX2_spread_151 : decode cX2_spread 151 = .ok (.getfield 107, 3) := by decide +kernel
theorem dX2_spread_154 : decode cX2_spread 154 = .ok (.ireturn, 1) := by decide +kernel
theorem dX2_clearPieces_0 : decode cX2_clearPieces 0 = .ok (.iconst 0, 1) := by decide +kernel
theorem dX2_clearPieces_1 : decode cX2_clearPieces 1 = .ok (.istore_n 1, 1) := by decide +kernel
theorem dX2_clearPieces_2 : decode cX2_clearPieces 2 = .ok (.iload_n 1, 1) := by decide +kernel
theorem dX2_clearPieces_3 : decode cX2_clearPieces 3 = .ok (.sipush 2401, 3) := by decide +kernel
theorem dX2_clearPieces_6 : decode cX2_clearPieces 6 = .ok (.if_icmp .ge 17, 3) := by decide +kernel
theorem dX2_clearPieces_9 : decode cX2_clearPieces 9 = .ok (.aload_n 0, 1) := by decide +kernel
theorem dX2_clearPieces_10 : decode cX2_clearPieces 10 = .ok (.getfield 38, 3) := by decide +kernel
theorem dX2_clearPieces_13 : decode cX2_clearPieces 13 = .ok (.iload_n 1, 1) := by decide +kernel
theorem dX2_clearPieces_14 : decode cX2_clearPieces 14 = .ok (.bipush (-6), 2) := by decide +kernel
theorem dX2_clearPieces_16 : decode cX2_clearPieces 16 = .ok (.iastore, 1) := by decide +kernel
theorem dX2_clearPieces_17 : decode cX2_clearPieces 17 = .ok (.iinc 1 1, 3) := by decide +kernel
theorem dX2_clearPieces_20 : decode cX2_clearPieces 20 = .ok (.goto (-18), 3) := by decide +kernel
theorem dX2_clearPieces_23 : decode cX2_clearPieces 23 = .ok (.return_, 1) := by decide +kernel
set_option maxRecDepth 20000 in
theorem ggX2_layPieces_X2_clearPieces : GoodIn wsX2_layPieces wsX2_clearPieces := goodIn_r _ [7, 2, 40, 41, 42, 43, 44, 45, 46, 47, 48, 49, 50, 51, 52, 53, 54] (by decide +kernel) (by decide +kernel)
set_option maxRecDepth 20000 in
theorem gX2_layPieces_X2_clearPieces : GoodIn wsX2_layPieces (wsV RX2 110 RX2 yX2_clearPieces wsX2_clearPieces) := goodIn_app (goodIn_of _ (by decide +kernel)) ggX2_layPieces_X2_clearPieces
set_option maxRecDepth 20000 in
theorem ggX2_layPieces_X2_isIn : GoodIn wsX2_layPieces wsX2_isIn := goodIn_r _ [11, 12, 40, 41, 42, 43, 44, 45, 46, 47, 48, 49, 50, 51, 52, 53, 54] (by decide +kernel) (by decide +kernel)
set_option maxRecDepth 20000 in
theorem gX2_layPieces_X2_isIn : GoodIn wsX2_layPieces (wsV RX2 84 RX2 yX2_isIn wsX2_isIn) := goodIn_app (goodIn_of _ (by decide +kernel)) ggX2_layPieces_X2_isIn
set_option maxRecDepth 20000 in
theorem ggX2_layPieces_X2_spread : GoodIn wsX2_layPieces wsX2_spread := goodIn_r _ [16, 17, 18, 2, 19, 20, 21, 22, 6, 23, 24, 25, 26, 27, 28, 29, 30, 31, 32, 33, 34, 35, 36, 37, 38, 39, 8, 9, 10, 11, 12, 40, 41, 42, 43, 44, 45, 46, 47, 48, 49, 50, 51, 52, 53, 54] (by decide +kernel) (by decide +kernel)
set_option maxRecDepth 20000 in
theorem gX2_layPieces_X2_spread : GoodIn wsX2_layPieces (wsV RX2 116 RX2 yX2_spread wsX2_spread) := goodIn_app (goodIn_of _ (by decide +kernel)) ggX2_layPieces_X2_spread
theorem dX2_layPieces_0 : decode cX2_layPieces 0 = .ok (.aload_n 0, 1) := by decide +kernel
theorem dX2_layPieces_1 : decode cX2_layPieces 1 = .ok (.invokevirtual 110, 3) := by decide +kernel
theorem dX2_layPieces_4 : decode cX2_layPieces 4 = .ok (.aload_n 0, 1) := by decide +kernel
theorem dX2_layPieces_5 : decode cX2_layPieces 5 = .ok (.iconst 0, 1) := by decide +kernel
theorem dX2_layPieces_6 : decode cX2_layPieces 6 = .ok (.putfield 113, 3) := by decide +kernel
theorem dX2_layPieces_9 : decode cX2_layPieces 9 = .ok (.iconst 0, 1) := by decide +kernel
theorem dX2_layPieces_10 : decode cX2_layPieces 10 = .ok (.istore_n 2, 1) := by decide +kernel
theorem dX2_layPieces_11 : decode cX2_layPieces 11 = .ok (.iconst 0, 1) := by decide +kernel
theorem dX2_layPieces_12 : decode cX2_layPieces 12 = .ok (.istore_n 3, 1) := by decide +kernel
theorem dX2_layPieces_13 : decode cX2_layPieces 13 = .ok (.iload_n 3, 1) := by decide +kernel
theorem dX2_layPieces_14 : decode cX2_layPieces 14 = .ok (.sipush 2401, 3) := by decide +kernel
theorem dX2_layPieces_17 : decode cX2_layPieces 17 = .ok (.if_icmp .ge 61, 3) := by decide +kernel
theorem dX2_layPieces_20 : decode cX2_layPieces 20 = .ok (.aload_n 0, 1) := by decide +kernel
theorem dX2_layPieces_21 : decode cX2_layPieces 21 = .ok (.iload_n 1, 1) := by decide +kernel
theorem dX2_layPieces_22 : decode cX2_layPieces 22 = .ok (.iload_n 3, 1) := by decide +kernel
theorem dX2_layPieces_23 : decode cX2_layPieces 23 = .ok (.invokevirtual 84, 3) := by decide +kernel
theorem dX2_layPieces_26 : decode cX2_layPieces 26 = .ok (.ifCond .eq 46, 3) := by decide +kernel
theorem dX2_layPieces_29 : decode cX2_layPieces 29 = .ok (.aload_n 0, 1) := by decide +kernel
theorem dX2_layPieces_30 : decode cX2_layPieces 30 = .ok (.getfield 38, 3) := by decide +kernel
theorem dX2_layPieces_33 : decode cX2_layPieces 33 = .ok (.iload_n 3, 1) := by decide +kernel
theorem dX2_layPieces_34 : decode cX2_layPieces 34 = .ok (.iaload, 1) := by decide +kernel
theorem dX2_layPieces_35 : decode cX2_layPieces 35 = .ok (.ifCond .ge 37, 3) := by decide +kernel
theorem dX2_layPieces_38 : decode cX2_layPieces 38 = .ok (.aload_n 0, 1) := by decide +kernel
theorem dX2_layPieces_39 : decode cX2_layPieces 39 = .ok (.iload_n 1, 1) := by decide +kernel
theorem dX2_layPieces_40 : decode cX2_layPieces 40 = .ok (.iload_n 3, 1) := by decide +kernel
theorem dX2_layPieces_41 : decode cX2_layPieces 41 = .ok (.iload_n 2, 1) := by decide +kernel
theorem dX2_layPieces_42 : decode cX2_layPieces 42 = .ok (.invokevirtual 116, 3) := by decide +kernel
theorem dX2_layPieces_45 : decode cX2_layPieces 45 = .ok (.istore 4, 2) := by decide +kernel
theorem dX2_layPieces_47 : decode cX2_layPieces 47 = .ok (.aload_n 0, 1) := by decide +kernel
theorem dX2_layPieces_48 : decode cX2_layPieces 48 = .ok (.iload 4, 2) := by decide +kernel
theorem dX2_layPieces_50 : decode cX2_layPieces 50 = .ok (.aload_n 0, 1) := by decide +kernel
theorem dX2_layPieces_51 : decode cX2_layPieces 51 = .ok (.getfield 113, 3) := by decide +kernel
theorem dX2_layPieces_54 : decode cX2_layPieces 54 = .ok (.if_icmp .le 8, 3) := by decide +kernel
theorem dX2_layPieces_57 : decode cX2_layPieces 57 = .ok (.iload 4, 2) := by decide +kernel
theorem dX2_layPieces_59 : decode cX2_layPieces 59 = .ok (.goto 7, 3) := by decide +kernel
theorem dX2_layPieces_62 : decode cX2_layPieces 62 = .ok (.aload_n 0, 1) := by decide +kernel
theorem dX2_layPieces_63 : decode cX2_layPieces 63 = .ok (.getfield 113, 3) := by decide +kernel
theorem dX2_layPieces_66 : decode cX2_layPieces 66 = .ok (.putfield 113, 3) := by decide +kernel
theorem dX2_layPieces_69 : decode cX2_layPieces 69 = .ok (.iinc 2 1, 3) := by decide +kernel
theorem dX2_layPieces_72 : decode cX2_layPieces 72 = .ok (.iinc 3 1, 3) := by decide +kernel
theorem dX2_layPieces_75 : decode cX2_layPieces 75 = .ok (.goto (-62), 3) := by decide +kernel
theorem dX2_layPieces_78 : decode cX2_layPieces 78 = .ok (.iload_n 2, 1) := by decide +kernel
theorem dX2_layPieces_79 : decode cX2_layPieces 79 = .ok (.ireturn, 1) := by decide +kernel
set_option maxRecDepth 20000 in
theorem ggX2_endOf_X2_isIn : GoodIn wsX2_endOf wsX2_isIn := goodIn_r _ [5, 6, 7, 8, 9, 10, 11, 12, 13, 14, 15, 16, 17, 18, 19, 20, 21] (by decide +kernel) (by decide +kernel)
set_option maxRecDepth 20000 in
theorem gX2_endOf_X2_isIn : GoodIn wsX2_endOf (wsV RX2 84 RX2 yX2_isIn wsX2_isIn) := goodIn_app (goodIn_of _ (by decide +kernel)) ggX2_endOf_X2_isIn
theorem dX2_endOf_0 : decode cX2_endOf 0 = .ok (.bipush (-6), 2) := by decide +kernel
theorem dX2_endOf_2 : decode cX2_endOf 2 = .ok (.istore_n 3, 1) := by decide +kernel
theorem dX2_endOf_3 : decode cX2_endOf 3 = .ok (.iconst 0, 1) := by decide +kernel
theorem dX2_endOf_4 : decode cX2_endOf 4 = .ok (.istore 4, 2) := by decide +kernel
theorem dX2_endOf_6 : decode cX2_endOf 6 = .ok (.iload 4, 2) := by decide +kernel
theorem dX2_endOf_8 : decode cX2_endOf 8 = .ok (.sipush 2401, 3) := by decide +kernel
theorem dX2_endOf_11 : decode cX2_endOf 11 = .ok (.if_icmp .ge 43, 3) := by decide +kernel
theorem dX2_endOf_14 : decode cX2_endOf 14 = .ok (.iload_n 2, 1) := by decide +kernel
theorem dX2_endOf_15 : decode cX2_endOf 15 = .ok (.ifCond .eq 8, 3) := by decide +kernel
theorem dX2_endOf_18 : decode cX2_endOf 18 = .ok (.iload 4, 2) := by decide +kernel
theorem dX2_endOf_20 : decode cX2_endOf 20 = .ok (.goto 9, 3) := by decide +kernel
theorem dX2_endOf_23 : decode cX2_endOf 23 = .ok (.sipush 2400, 3) := by decide +kernel
theorem dX2_endOf_26 : decode cX2_endOf 26 = .ok (.iload 4, 2) := by decide +kernel
theorem dX2_endOf_28 : decode cX2_endOf 28 = .ok (.isub, 1) := by decide +kernel
theorem dX2_endOf_29 : decode cX2_endOf 29 = .ok (.istore 5, 2) := by decide +kernel
theorem dX2_endOf_31 : decode cX2_endOf 31 = .ok (.aload_n 0, 1) := by decide +kernel
theorem dX2_endOf_32 : decode cX2_endOf 32 = .ok (.iload_n 1, 1) := by decide +kernel
theorem dX2_endOf_33 : decode cX2_endOf 33 = .ok (.iload 5, 2) := by decide +kernel
theorem dX2_endOf_35 : decode cX2_endOf 35 = .ok (.invokevirtual 84, 3) := by decide +kernel
theorem dX2_endOf_38 : decode cX2_endOf 38 = .ok (.ifCond .eq 8, 3) := by decide +kernel
theorem dX2_endOf_41 : decode cX2_endOf 41 = .ok (.iload 5, 2) := by decide +kernel
theorem dX2_endOf_43 : decode cX2_endOf 43 = .ok (.goto 4, 3) := by decide +kernel
theorem dX2_endOf_46 : decode cX2_endOf 46 = .ok (.iload_n 3, 1) := by decide +kernel
theorem dX2_endOf_47 : decode cX2_endOf 47 = .ok (.istore_n 3, 1) := by decide +kernel
theorem dX2_endOf_48 : decode cX2_endOf 48 = .ok (.iinc 4 1, 3) := by decide +kernel
theorem dX2_endOf_51 : decode cX2_endOf 51 = .ok (.goto (-45), 3) := by decide +kernel
theorem dX2_endOf_54 : decode cX2_endOf 54 = .ok (.iload_n 3, 1) := by decide +kernel
theorem dX2_endOf_55 : decode cX2_endOf 55 = .ok (.ireturn, 1) := by decide +kernel
set_option maxRecDepth 20000 in
theorem ggX2_about_X2_isSlot : GoodIn wsX2_about wsX2_isSlot := goodIn_r _ [6, 7, 8, 5, 9] (by decide +kernel) (by decide +kernel)
set_option maxRecDepth 20000 in
theorem gX2_about_X2_isSlot : GoodIn wsX2_about (va_wsS RX2 88 yX2_isSlot wsX2_isSlot) := goodIn_app (goodIn_of _ (by decide +kernel)) ggX2_about_X2_isSlot
set_option maxRecDepth 20000 in
theorem ggX2_about_X2_many : GoodIn wsX2_about wsX2_many := goodIn_r _ [13, 14, 15, 16, 5, 17, 18, 80, 81, 82, 83, 84, 85, 86, 87, 88, 89, 90, 91, 92, 93, 94] (by decide +kernel) (by decide +kernel)
set_option maxRecDepth 20000 in
theorem gX2_about_X2_many : GoodIn wsX2_about (wsV RX2 91 RX2 yX2_many wsX2_many) := goodIn_app (goodIn_of _ (by decide +kernel)) ggX2_about_X2_many
set_option maxRecDepth 20000 in
theorem ggX2_about_X2_pack : GoodIn wsX2_about wsX2_pack := goodIn_r _ [22, 1, 23, 24, 25, 26, 5, 27, 28, 29, 30, 31, 32, 33, 34, 14, 15, 16, 17, 18, 80, 81, 82, 83, 84, 85, 86, 87, 88, 89, 90, 91, 92, 93, 94] (by decide +kernel) (by decide +kernel)
set_option maxRecDepth 20000 in
theorem gX2_about_X2_pack : GoodIn wsX2_about (wsV RX2 120 RX2 yX2_pack wsX2_pack) := goodIn_app (goodIn_of _ (by decide +kernel)) ggX2_about_X2_pack
set_option maxRecDepth 20000 in
theorem ggX2_about_X2_border : GoodIn wsX2_about wsX2_border := goodIn_r _ [38, 14, 15, 16, 5, 17, 18, 39, 40, 41, 42, 43, 44, 45, 46, 47, 48, 49, 50, 51, 52, 53, 54, 55, 56, 57, 58, 59, 7, 8, 9, 80, 81, 82, 83, 84, 85, 86, 87, 88, 89, 90, 91, 92, 93, 94] (by decide +kernel) (by decide +kernel)
set_option maxRecDepth 20000 in
theorem gX2_about_X2_border : GoodIn wsX2_about (wsV RX2 124 RX2 yX2_border wsX2_border) := goodIn_app (goodIn_of _ (by decide +kernel)) ggX2_about_X2_border
set_option maxRecDepth 20000 in
theorem ggX2_about_X2_layPieces : GoodIn wsX2_about wsX2_layPieces := goodIn_r _ [63, 2, 64, 65, 66, 67, 5, 68, 14, 15, 16, 17, 18, 69, 70, 71, 72, 73, 74, 75, 43, 44, 45, 46, 47, 48, 49, 50, 51, 52, 53, 54, 55, 56, 57, 58, 59, 7, 8, 9, 80, 81, 82, 83, 84, 85, 86, 87, 88, 89, 90, 91, 92, 93, 94] (by decide +kernel) (by decide +kernel)
set_option maxRecDepth 20000 in
theorem gX2_about_X2_layPieces : GoodIn wsX2_about (wsV RX2 127 RX2 yX2_layPieces wsX2_layPieces) := goodIn_app (goodIn_of _ (by decide +kernel)) ggX2_about_X2_layPieces
set_option maxRecDepth 20000 in
theorem ggX2_about_X2_endOf : GoodIn wsX2_about wsX2_endOf := goodIn_r _ [79, 14, 15, 16, 5, 17, 18, 80, 81, 82, 83, 84, 85, 86, 87, 88, 89, 90, 91, 92, 93, 94] (by decide +kernel) (by decide +kernel)
set_option maxRecDepth 20000 in
theorem gX2_about_X2_endOf : GoodIn wsX2_about (wsV RX2 130 RX2 yX2_endOf wsX2_endOf) := goodIn_app (goodIn_of _ (by decide +kernel)) ggX2_about_X2_endOf
theorem dX2_about_0 : decode cX2_about 0 = .ok (.iload_n 1, 1) := by decide +kernel
theorem dX2_about_1 : decode cX2_about 1 = .ok (.invokestatic 88, 3) := by decide +kernel
theorem dX2_about_4 : decode cX2_about 4 = .ok (.ifCond .ne 5, 3) := by decide +kernel
theorem dX2_about_7 : decode cX2_about 7 = .ok (.iconst (-1), 1) := by decide +kernel
theorem dX2_about_8 : decode cX2_about 8 = .ok (.ireturn, 1) := by decide +kernel
theorem dX2_about_9 : decode cX2_about 9 = .ok (.iload_n 2, 1) := by decide +kernel
theorem dX2_about_10 : decode cX2_about 10 = .ok (.tableswitch 95 0 6 #[42, 48, 58, 64, 70, 81, 88], 42) := by decide +kernel
theorem dX2_about_52 : decode cX2_about 52 = .ok (.aload_n 0, 1) := by decide +kernel
theorem dX2_about_53 : decode cX2_about 53 = .ok (.iload_n 1, 1) := by decide +kernel
theorem dX2_about_54 : decode cX2_about 54 = .ok (.invokevirtual 91, 3) := by decide +kernel
theorem dX2_about_57 : decode cX2_about 57 = .ok (.ireturn, 1) := by decide +kernel
theorem dX2_about_58 : decode cX2_about 58 = .ok (.aload_n 0, 1) := by decide +kernel
theorem dX2_about_59 : decode cX2_about 59 = .ok (.iload_n 1, 1) := by decide +kernel
theorem dX2_about_60 : decode cX2_about 60 = .ok (.invokevirtual 120, 3) := by decide +kernel
theorem dX2_about_63 : decode cX2_about 63 = .ok (.aload_n 0, 1) := by decide +kernel
theorem dX2_about_64 : decode cX2_about 64 = .ok (.getfield 100, 3) := by decide +kernel
theorem dX2_about_67 : decode cX2_about 67 = .ok (.ireturn, 1) := by decide +kernel
theorem dX2_about_68 : decode cX2_about 68 = .ok (.aload_n 0, 1) := by decide +kernel
theorem dX2_about_69 : decode cX2_about 69 = .ok (.iload_n 1, 1) := by decide +kernel
theorem dX2_about_70 : decode cX2_about 70 = .ok (.invokevirtual 124, 3) := by decide +kernel
theorem dX2_about_73 : decode cX2_about 73 = .ok (.ireturn, 1) := by decide +kernel
theorem dX2_about_74 : decode cX2_about 74 = .ok (.aload_n 0, 1) := by decide +kernel
theorem dX2_about_75 : decode cX2_about 75 = .ok (.iload_n 1, 1) := by decide +kernel
theorem dX2_about_76 : decode cX2_about 76 = .ok (.invokevirtual 127, 3) := by decide +kernel
theorem dX2_about_79 : decode cX2_about 79 = .ok (.ireturn, 1) := by decide +kernel
theorem dX2_about_80 : decode cX2_about 80 = .ok (.aload_n 0, 1) := by decide +kernel
theorem dX2_about_81 : decode cX2_about 81 = .ok (.iload_n 1, 1) := by decide +kernel
theorem dX2_about_82 : decode cX2_about 82 = .ok (.invokevirtual 127, 3) := by decide +kernel
theorem dX2_about_85 : decode cX2_about 85 = .ok (.pop, 1) := by decide +kernel
theorem dX2_about_86 : decode cX2_about 86 = .ok (.aload_n 0, 1) := by decide +kernel
theorem dX2_about_87 : decode cX2_about 87 = .ok (.getfield 113, 3) := by decide +kernel
theorem dX2_about_90 : decode cX2_about 90 = .ok (.ireturn, 1) := by decide +kernel
theorem dX2_about_91 : decode cX2_about 91 = .ok (.aload_n 0, 1) := by decide +kernel
theorem dX2_about_92 : decode cX2_about 92 = .ok (.iload_n 1, 1) := by decide +kernel
theorem dX2_about_93 : decode cX2_about 93 = .ok (.iconst 0, 1) := by decide +kernel
theorem dX2_about_94 : decode cX2_about 94 = .ok (.invokevirtual 130, 3) := by decide +kernel
theorem dX2_about_97 : decode cX2_about 97 = .ok (.ireturn, 1) := by decide +kernel
theorem dX2_about_98 : decode cX2_about 98 = .ok (.aload_n 0, 1) := by decide +kernel
theorem dX2_about_99 : decode cX2_about 99 = .ok (.iload_n 1, 1) := by decide +kernel
theorem dX2_about_100 : decode cX2_about 100 = .ok (.iconst 1, 1) := by decide +kernel
theorem dX2_about_101 : decode cX2_about 101 = .ok (.invokevirtual 130, 3) := by decide +kernel
theorem dX2_about_104 : decode cX2_about 104 = .ok (.ireturn, 1) := by decide +kernel
theorem dX2_about_105 : decode cX2_about 105 = .ok (.bipush (-2), 2) := by decide +kernel
theorem dX2_about_107 : decode cX2_about 107 = .ok (.ireturn, 1) := by decide +kernel
set_option maxRecDepth 20000 in
theorem ggX2_packed_X2_isSlot : GoodIn wsX2_packed wsX2_isSlot := goodIn_r _ [7, 8, 9, 6, 10] (by decide +kernel) (by decide +kernel)
set_option maxRecDepth 20000 in
theorem gX2_packed_X2_isSlot : GoodIn wsX2_packed (va_wsS RX2 88 yX2_isSlot wsX2_isSlot) := goodIn_app (goodIn_of _ (by decide +kernel)) ggX2_packed_X2_isSlot
set_option maxRecDepth 20000 in
theorem ggX2_packed_X2_in : GoodIn wsX2_packed wsX2_in := goodIn_r _ [10] (by decide +kernel) (by decide +kernel)
set_option maxRecDepth 20000 in
theorem gX2_packed_X2_in : GoodIn wsX2_packed (va_wsS RX2 54 yX2_in wsX2_in) := goodIn_app (goodIn_of _ (by decide +kernel)) ggX2_packed_X2_in
set_option maxRecDepth 20000 in
theorem ggX2_packed_X2_pack : GoodIn wsX2_packed wsX2_pack := goodIn_r _ [14, 1, 2, 3, 15, 16, 6, 17, 18, 19, 20, 21, 22, 23, 24, 25, 26, 27, 28, 29, 30, 31, 32, 33, 34, 35, 36, 37, 38, 39, 40, 41, 42, 43, 44] (by decide +kernel) (by decide +kernel)
set_option maxRecDepth 20000 in
theorem gX2_packed_X2_pack : GoodIn wsX2_packed (wsV RX2 120 RX2 yX2_pack wsX2_pack) := goodIn_app (goodIn_of _ (by decide +kernel)) ggX2_packed_X2_pack
theorem dX2_packed_0 : decode cX2_packed 0 = .ok (.iload_n 1, 1) := by decide +kernel
theorem dX2_packed_1 : decode cX2_packed 1 = .ok (.invokestatic 88, 3) := by decide +kernel
theorem dX2_packed_4 : decode cX2_packed 4 = .ok (.ifCond .ne 5, 3) := by decide +kernel
theorem dX2_packed_7 : decode cX2_packed 7 = .ok (.iconst (-1), 1) := by decide +kernel
theorem dX2_packed_8 : decode cX2_packed 8 = .ok (.ireturn, 1) := by decide +kernel
theorem dX2_packed_9 : decode cX2_packed 9 = .ok (.iload_n 3, 1) := by decide +kernel
theorem dX2_packed_10 : decode cX2_packed 10 = .ok (.iconst 0, 1) := by decide +kernel
theorem dX2_packed_11 : decode cX2_packed 11 = .ok (.iconst 1, 1) := by decide +kernel
theorem dX2_packed_12 : decode cX2_packed 12 = .ok (.invokestatic 54, 3) := by decide +kernel
theorem dX2_packed_15 : decode cX2_packed 15 = .ok (.ifCond .ne 6, 3) := by decide +kernel
theorem dX2_packed_18 : decode cX2_packed 18 = .ok (.bipush (-2), 2) := by decide +kernel
theorem dX2_packed_20 : decode cX2_packed 20 = .ok (.ireturn, 1) := by decide +kernel
theorem dX2_packed_21 : decode cX2_packed 21 = .ok (.aload_n 0, 1) := by decide +kernel
theorem dX2_packed_22 : decode cX2_packed 22 = .ok (.iload_n 1, 1) := by decide +kernel
theorem dX2_packed_23 : decode cX2_packed 23 = .ok (.invokevirtual 120, 3) := by decide +kernel
theorem dX2_packed_26 : decode cX2_packed 26 = .ok (.iload_n 2, 1) := by decide +kernel
theorem dX2_packed_27 : decode cX2_packed 27 = .ok (.iconst 0, 1) := by decide +kernel
theorem dX2_packed_28 : decode cX2_packed 28 = .ok (.aload_n 0, 1) := by decide +kernel
theorem dX2_packed_29 : decode cX2_packed 29 = .ok (.getfield 100, 3) := by decide +kernel
theorem dX2_packed_32 : decode cX2_packed 32 = .ok (.iconst 1, 1) := by decide +kernel
theorem dX2_packed_33 : decode cX2_packed 33 = .ok (.isub, 1) := by decide +kernel
theorem dX2_packed_34 : decode cX2_packed 34 = .ok (.invokestatic 54, 3) := by decide +kernel
theorem dX2_packed_37 : decode cX2_packed 37 = .ok (.ifCond .ne 8, 3) := by decide +kernel
theorem dX2_packed_40 : decode cX2_packed 40 = .ok (.bipush (-6), 2) := by decide +kernel
theorem dX2_packed_42 : decode cX2_packed 42 = .ok (.goto 22, 3) := by decide +kernel
theorem dX2_packed_45 : decode cX2_packed 45 = .ok (.iload_n 3, 1) := by decide +kernel
theorem dX2_packed_46 : decode cX2_packed 46 = .ok (.ifCond .ne 12, 3) := by decide +kernel
theorem dX2_packed_49 : decode cX2_packed 49 = .ok (.aload_n 0, 1) := by decide +kernel
theorem dX2_packed_50 : decode cX2_packed 50 = .ok (.getfield 32, 3) := by decide +kernel
theorem dX2_packed_53 : decode cX2_packed 53 = .ok (.iload_n 2, 1) := by decide +kernel
theorem dX2_packed_54 : decode cX2_packed 54 = .ok (.iaload, 1) := by decide +kernel
theorem dX2_packed_55 : decode cX2_packed 55 = .ok (.goto 9, 3) := by decide +kernel
theorem dX2_packed_58 : decode cX2_packed 58 = .ok (.aload_n 0, 1) := by decide +kernel
theorem dX2_packed_59 : decode cX2_packed 59 = .ok (.getfield 35, 3) := by decide +kernel
theorem dX2_packed_62 : decode cX2_packed 62 = .ok (.iload_n 2, 1) := by decide +kernel
theorem dX2_packed_63 : decode cX2_packed 63 = .ok (.iaload, 1) := by decide +kernel
theorem dX2_packed_64 : decode cX2_packed 64 = .ok (.ireturn, 1) := by decide +kernel
set_option maxRecDepth 20000 in
theorem ggX2_piece_X2_isSlot : GoodIn wsX2_piece wsX2_isSlot := goodIn_r _ [5, 6, 7, 4, 8] (by decide +kernel) (by decide +kernel)
set_option maxRecDepth 20000 in
theorem gX2_piece_X2_isSlot : GoodIn wsX2_piece (va_wsS RX2 88 yX2_isSlot wsX2_isSlot) := goodIn_app (goodIn_of _ (by decide +kernel)) ggX2_piece_X2_isSlot
set_option maxRecDepth 20000 in
theorem ggX2_piece_X2_isKey : GoodIn wsX2_piece wsX2_isKey := goodIn_r _ [11, 6, 7, 4, 8] (by decide +kernel) (by decide +kernel)
set_option maxRecDepth 20000 in
theorem gX2_piece_X2_isKey : GoodIn wsX2_piece (va_wsS RX2 58 yX2_isKey wsX2_isKey) := goodIn_app (goodIn_of _ (by decide +kernel)) ggX2_piece_X2_isKey
set_option maxRecDepth 20000 in
theorem ggX2_piece_X2_layPieces : GoodIn wsX2_piece wsX2_layPieces := goodIn_r _ [15, 16, 1, 17, 18, 19, 4, 20, 21, 22, 23, 24, 25, 26, 27, 28, 29, 30, 31, 32, 33, 34, 35, 36, 37, 38, 39, 40, 41, 42, 43, 44, 45, 46, 47, 48, 49, 6, 7, 8, 50, 51, 52, 53, 54, 55, 56, 57, 58, 59, 60, 61, 62, 63, 64] (by decide +kernel) (by decide +kernel)
set_option maxRecDepth 20000 in
theorem gX2_piece_X2_layPieces : GoodIn wsX2_piece (wsV RX2 127 RX2 yX2_layPieces wsX2_layPieces) := goodIn_app (goodIn_of _ (by decide +kernel)) ggX2_piece_X2_layPieces
theorem dX2_piece_0 : decode cX2_piece 0 = .ok (.iload_n 1, 1) := by decide +kernel
theorem dX2_piece_1 : decode cX2_piece 1 = .ok (.invokestatic 88, 3) := by decide +kernel
theorem dX2_piece_4 : decode cX2_piece 4 = .ok (.ifCond .ne 5, 3) := by decide +kernel
theorem dX2_piece_7 : decode cX2_piece 7 = .ok (.iconst (-1), 1) := by decide +kernel
theorem dX2_piece_8 : decode cX2_piece 8 = .ok (.ireturn, 1) := by decide +kernel
theorem dX2_piece_9 : decode cX2_piece 9 = .ok (.iload_n 2, 1) := by decide +kernel
theorem dX2_piece_10 : decode cX2_piece 10 = .ok (.invokestatic 58, 3) := by decide +kernel
theorem dX2_piece_13 : decode cX2_piece 13 = .ok (.ifCond .ne 6, 3) := by decide +kernel
theorem dX2_piece_16 : decode cX2_piece 16 = .ok (.bipush (-2), 2) := by decide +kernel
theorem dX2_piece_18 : decode cX2_piece 18 = .ok (.ireturn, 1) := by decide +kernel
theorem dX2_piece_19 : decode cX2_piece 19 = .ok (.aload_n 0, 1) := by decide +kernel
theorem dX2_piece_20 : decode cX2_piece 20 = .ok (.iload_n 1, 1) := by decide +kernel
theorem dX2_piece_21 : decode cX2_piece 21 = .ok (.invokevirtual 127, 3) := by decide +kernel
theorem dX2_piece_24 : decode cX2_piece 24 = .ok (.pop, 1) := by decide +kernel
theorem dX2_piece_25 : decode cX2_piece 25 = .ok (.aload_n 0, 1) := by decide +kernel
theorem dX2_piece_26 : decode cX2_piece 26 = .ok (.getfield 38, 3) := by decide +kernel
theorem dX2_piece_29 : decode cX2_piece 29 = .ok (.iload_n 2, 1) := by decide +kernel
theorem dX2_piece_30 : decode cX2_piece 30 = .ok (.iaload, 1) := by decide +kernel
theorem dX2_piece_31 : decode cX2_piece 31 = .ok (.ireturn, 1) := by decide +kernel
set_option maxRecDepth 20000 in
theorem ggX2_way_X2_isSlot : GoodIn wsX2_way wsX2_isSlot := goodIn_r _ [6, 7, 8, 5, 9] (by decide +kernel) (by decide +kernel)
set_option maxRecDepth 20000 in
theorem gX2_way_X2_isSlot : GoodIn wsX2_way (va_wsS RX2 88 yX2_isSlot wsX2_isSlot) := goodIn_app (goodIn_of _ (by decide +kernel)) ggX2_way_X2_isSlot
set_option maxRecDepth 20000 in
theorem ggX2_way_X2_isKey : GoodIn wsX2_way wsX2_isKey := goodIn_r _ [12, 7, 8, 5, 9] (by decide +kernel) (by decide +kernel)
set_option maxRecDepth 20000 in
theorem gX2_way_X2_isKey : GoodIn wsX2_way (va_wsS RX2 58 yX2_isKey wsX2_isKey) := goodIn_app (goodIn_of _ (by decide +kernel)) ggX2_way_X2_isKey
set_option maxRecDepth 20000 in
theorem ggX2_way_X2_isIn : GoodIn wsX2_way wsX2_isIn := goodIn_r _ [16, 17, 45, 46, 47, 48, 49, 50, 51, 52, 53, 54, 55, 56, 57, 58, 59] (by decide +kernel) (by decide +kernel)
set_option maxRecDepth 20000 in
theorem gX2_way_X2_isIn : GoodIn wsX2_way (wsV RX2 84 RX2 yX2_isIn wsX2_isIn) := goodIn_app (goodIn_of _ (by decide +kernel)) ggX2_way_X2_isIn
set_option maxRecDepth 20000 in
theorem ggX2_way_X2_clearPieces : GoodIn wsX2_way wsX2_clearPieces := goodIn_r _ [21, 1, 45, 46, 47, 48, 49, 50, 51, 52, 53, 54, 55, 56, 57, 58, 59] (by decide +kernel) (by decide +kernel)
set_option maxRecDepth 20000 in
theorem gX2_way_X2_clearPieces : GoodIn wsX2_way (wsV RX2 110 RX2 yX2_clearPieces wsX2_clearPieces) := goodIn_app (goodIn_of _ (by decide +kernel)) ggX2_way_X2_clearPieces
set_option maxRecDepth 20000 in
theorem ggX2_way_X2_spread : GoodIn wsX2_way wsX2_spread := goodIn_r _ [25, 26, 27, 1, 2, 28, 29, 30, 5, 31, 32, 33, 34, 35, 36, 37, 38, 39, 40, 41, 42, 43, 44, 7, 8, 9, 13, 14, 15, 16, 17, 45, 46, 47, 48, 49, 50, 51, 52, 53, 54, 55, 56, 57, 58, 59] (by decide +kernel) (by decide +kernel)
set_option maxRecDepth 20000 in
theorem gX2_way_X2_spread : GoodIn wsX2_way (wsV RX2 116 RX2 yX2_spread wsX2_spread) := goodIn_app (goodIn_of _ (by decide +kernel)) ggX2_way_X2_spread
theorem dX2_way_0 : decode cX2_way 0 = .ok (.iload_n 1, 1) := by decide +kernel
theorem dX2_way_1 : decode cX2_way 1 = .ok (.invokestatic 88, 3) := by decide +kernel
theorem dX2_way_4 : decode cX2_way 4 = .ok (.ifCond .ne 5, 3) := by decide +kernel
theorem dX2_way_7 : decode cX2_way 7 = .ok (.iconst (-1), 1) := by decide +kernel
theorem dX2_way_8 : decode cX2_way 8 = .ok (.ireturn, 1) := by decide +kernel
theorem dX2_way_9 : decode cX2_way 9 = .ok (.iload_n 2, 1) := by decide +kernel
theorem dX2_way_10 : decode cX2_way 10 = .ok (.invokestatic 58, 3) := by decide +kernel
theorem dX2_way_13 : decode cX2_way 13 = .ok (.ifCond .eq 10, 3) := by decide +kernel
theorem dX2_way_16 : decode cX2_way 16 = .ok (.iload_n 3, 1) := by decide +kernel
theorem dX2_way_17 : decode cX2_way 17 = .ok (.invokestatic 58, 3) := by decide +kernel
theorem dX2_way_20 : decode cX2_way 20 = .ok (.ifCond .ne 6, 3) := by decide +kernel
theorem dX2_way_23 : decode cX2_way 23 = .ok (.bipush (-2), 2) := by decide +kernel
theorem dX2_way_25 : decode cX2_way 25 = .ok (.ireturn, 1) := by decide +kernel
theorem dX2_way_26 : decode cX2_way 26 = .ok (.aload_n 0, 1) := by decide +kernel
theorem dX2_way_27 : decode cX2_way 27 = .ok (.iload_n 1, 1) := by decide +kernel
theorem dX2_way_28 : decode cX2_way 28 = .ok (.iload_n 2, 1) := by decide +kernel
theorem dX2_way_29 : decode cX2_way 29 = .ok (.invokevirtual 84, 3) := by decide +kernel
theorem dX2_way_32 : decode cX2_way 32 = .ok (.ifCond .eq 12, 3) := by decide +kernel
theorem dX2_way_35 : decode cX2_way 35 = .ok (.aload_n 0, 1) := by decide +kernel
theorem dX2_way_36 : decode cX2_way 36 = .ok (.iload_n 1, 1) := by decide +kernel
theorem dX2_way_37 : decode cX2_way 37 = .ok (.iload_n 3, 1) := by decide +kernel
theorem dX2_way_38 : decode cX2_way 38 = .ok (.invokevirtual 84, 3) := by decide +kernel
theorem dX2_way_41 : decode cX2_way 41 = .ok (.ifCond .ne 6, 3) := by decide +kernel
theorem dX2_way_44 : decode cX2_way 44 = .ok (.bipush (-6), 2) := by decide +kernel
theorem dX2_way_46 : decode cX2_way 46 = .ok (.ireturn, 1) := by decide +kernel
theorem dX2_way_47 : decode cX2_way 47 = .ok (.aload_n 0, 1) := by decide +kernel
theorem dX2_way_48 : decode cX2_way 48 = .ok (.invokevirtual 110, 3) := by decide +kernel
theorem dX2_way_51 : decode cX2_way 51 = .ok (.aload_n 0, 1) := by decide +kernel
theorem dX2_way_52 : decode cX2_way 52 = .ok (.iload_n 1, 1) := by decide +kernel
theorem dX2_way_53 : decode cX2_way 53 = .ok (.iload_n 2, 1) := by decide +kernel
theorem dX2_way_54 : decode cX2_way 54 = .ok (.iconst 0, 1) := by decide +kernel
theorem dX2_way_55 : decode cX2_way 55 = .ok (.invokevirtual 116, 3) := by decide +kernel
theorem dX2_way_58 : decode cX2_way 58 = .ok (.pop, 1) := by decide +kernel
theorem dX2_way_59 : decode cX2_way 59 = .ok (.aload_n 0, 1) := by decide +kernel
theorem dX2_way_60 : decode cX2_way 60 = .ok (.getfield 38, 3) := by decide +kernel
theorem dX2_way_63 : decode cX2_way 63 = .ok (.iload_n 3, 1) := by decide +kernel
theorem dX2_way_64 : decode cX2_way 64 = .ok (.iaload, 1) := by decide +kernel
theorem dX2_way_65 : decode cX2_way 65 = .ok (.ifCond .ge 8, 3) := by decide +kernel
theorem dX2_way_68 : decode cX2_way 68 = .ok (.bipush (-6), 2) := by decide +kernel
theorem dX2_way_70 : decode cX2_way 70 = .ok (.goto 9, 3) := by decide +kernel
theorem dX2_way_73 : decode cX2_way 73 = .ok (.aload_n 0, 1) := by decide +kernel
theorem dX2_way_74 : decode cX2_way 74 = .ok (.getfield 41, 3) := by decide +kernel
theorem dX2_way_77 : decode cX2_way 77 = .ok (.iload_n 3, 1) := by decide +kernel
theorem dX2_way_78 : decode cX2_way 78 = .ok (.iaload, 1) := by decide +kernel
theorem dX2_way_79 : decode cX2_way 79 = .ok (.ireturn, 1) := by decide +kernel
set_option maxRecDepth 20000 in
theorem ggX2_alike_X2_isSlot : GoodIn wsX2_alike wsX2_isSlot := goodIn_r _ [4, 5, 6, 3, 7] (by decide +kernel) (by decide +kernel)
set_option maxRecDepth 20000 in
theorem gX2_alike_X2_isSlot : GoodIn wsX2_alike (va_wsS RX2 88 yX2_isSlot wsX2_isSlot) := goodIn_app (goodIn_of _ (by decide +kernel)) ggX2_alike_X2_isSlot
set_option maxRecDepth 20000 in
theorem ggX2_alike_X2_isIn : GoodIn wsX2_alike wsX2_isIn := goodIn_r _ [11, 12, 17, 18, 19, 20, 21, 22, 23, 24, 25, 26, 27, 28, 29, 30, 31] (by decide +kernel) (by decide +kernel)
set_option maxRecDepth 20000 in
theorem gX2_alike_X2_isIn : GoodIn wsX2_alike (wsV RX2 84 RX2 yX2_isIn wsX2_isIn) := goodIn_app (goodIn_of _ (by decide +kernel)) ggX2_alike_X2_isIn
set_option maxRecDepth 20000 in
theorem ggX2_alike_X2_many : GoodIn wsX2_alike wsX2_many := goodIn_r _ [16, 8, 9, 10, 3, 11, 12, 17, 18, 19, 20, 21, 22, 23, 24, 25, 26, 27, 28, 29, 30, 31] (by decide +kernel) (by decide +kernel)
set_option maxRecDepth 20000 in
theorem gX2_alike_X2_many : GoodIn wsX2_alike (wsV RX2 91 RX2 yX2_many wsX2_many) := goodIn_app (goodIn_of _ (by decide +kernel)) ggX2_alike_X2_many
theorem dX2_alike_0 : decode cX2_alike 0 = .ok (.iload_n 1, 1) := by decide +kernel
theorem dX2_alike_1 : decode cX2_alike 1 = .ok (.invokestatic 88, 3) := by decide +kernel
theorem dX2_alike_4 : decode cX2_alike 4 = .ok (.ifCond .eq 10, 3) := by decide +kernel
theorem dX2_alike_7 : decode cX2_alike 7 = .ok (.iload_n 2, 1) := by decide +kernel
theorem dX2_alike_8 : decode cX2_alike 8 = .ok (.invokestatic 88, 3) := by decide +kernel
theorem dX2_alike_11 : decode cX2_alike 11 = .ok (.ifCond .ne 5, 3) := by decide +kernel
theorem dX2_alike_14 : decode cX2_alike 14 = .ok (.iconst (-1), 1) := by decide +kernel
theorem dX2_alike_15 : decode cX2_alike 15 = .ok (.ireturn, 1) := by decide +kernel
theorem dX2_alike_16 : decode cX2_alike 16 = .ok (.iconst 0, 1) := by decide +kernel
theorem dX2_alike_17 : decode cX2_alike 17 = .ok (.istore_n 3, 1) := by decide +kernel
theorem dX2_alike_18 : decode cX2_alike 18 = .ok (.iconst 0, 1) := by decide +kernel
theorem dX2_alike_19 : decode cX2_alike 19 = .ok (.istore 4, 2) := by decide +kernel
theorem dX2_alike_21 : decode cX2_alike 21 = .ok (.iload 4, 2) := by decide +kernel
theorem dX2_alike_23 : decode cX2_alike 23 = .ok (.sipush 2401, 3) := by decide +kernel
theorem dX2_alike_26 : decode cX2_alike 26 = .ok (.if_icmp .ge 37, 3) := by decide +kernel
theorem dX2_alike_29 : decode cX2_alike 29 = .ok (.iload_n 3, 1) := by decide +kernel
theorem dX2_alike_30 : decode cX2_alike 30 = .ok (.aload_n 0, 1) := by decide +kernel
theorem dX2_alike_31 : decode cX2_alike 31 = .ok (.iload_n 1, 1) := by decide +kernel
theorem dX2_alike_32 : decode cX2_alike 32 = .ok (.iload 4, 2) := by decide +kernel
theorem dX2_alike_34 : decode cX2_alike 34 = .ok (.invokevirtual 84, 3) := by decide +kernel
theorem dX2_alike_37 : decode cX2_alike 37 = .ok (.ifCond .eq 17, 3) := by decide +kernel
theorem dX2_alike_40 : decode cX2_alike 40 = .ok (.aload_n 0, 1) := by decide +kernel
theorem dX2_alike_41 : decode cX2_alike 41 = .ok (.iload_n 2, 1) := by decide +kernel
theorem dX2_alike_42 : decode cX2_alike 42 = .ok (.iload 4, 2) := by decide +kernel
theorem dX2_alike_44 : decode cX2_alike 44 = .ok (.invokevirtual 84, 3) := by decide +kernel
theorem dX2_alike_47 : decode cX2_alike 47 = .ok (.ifCond .eq 7, 3) := by decide +kernel
theorem dX2_alike_50 : decode cX2_alike 50 = .ok (.iconst 1, 1) := by decide +kernel
theorem dX2_alike_51 : decode cX2_alike 51 = .ok (.goto 4, 3) := by decide +kernel
theorem dX2_alike_54 : decode cX2_alike 54 = .ok (.iconst 0, 1) := by decide +kernel
theorem dX2_alike_55 : decode cX2_alike 55 = .ok (.iadd, 1) := by decide +kernel
theorem dX2_alike_56 : decode cX2_alike 56 = .ok (.istore_n 3, 1) := by decide +kernel
theorem dX2_alike_57 : decode cX2_alike 57 = .ok (.iinc 4 1, 3) := by decide +kernel
theorem dX2_alike_60 : decode cX2_alike 60 = .ok (.goto (-39), 3) := by decide +kernel
theorem dX2_alike_63 : decode cX2_alike 63 = .ok (.aload_n 0, 1) := by decide +kernel
theorem dX2_alike_64 : decode cX2_alike 64 = .ok (.iload_n 1, 1) := by decide +kernel
theorem dX2_alike_65 : decode cX2_alike 65 = .ok (.invokevirtual 91, 3) := by decide +kernel
theorem dX2_alike_68 : decode cX2_alike 68 = .ok (.istore 4, 2) := by decide +kernel
theorem dX2_alike_70 : decode cX2_alike 70 = .ok (.aload_n 0, 1) := by decide +kernel
theorem dX2_alike_71 : decode cX2_alike 71 = .ok (.iload_n 2, 1) := by decide +kernel
theorem dX2_alike_72 : decode cX2_alike 72 = .ok (.invokevirtual 91, 3) := by decide +kernel
theorem dX2_alike_75 : decode cX2_alike 75 = .ok (.istore 5, 2) := by decide +kernel
theorem dX2_alike_77 : decode cX2_alike 77 = .ok (.iload_n 3, 1) := by decide +kernel
theorem dX2_alike_78 : decode cX2_alike 78 = .ok (.iload 4, 2) := by decide +kernel
theorem dX2_alike_80 : decode cX2_alike 80 = .ok (.if_icmp .eq 9, 3) := by decide +kernel
theorem dX2_alike_83 : decode cX2_alike 83 = .ok (.iload_n 3, 1) := by decide +kernel
theorem dX2_alike_84 : decode cX2_alike 84 = .ok (.iload 5, 2) := by decide +kernel
theorem dX2_alike_86 : decode cX2_alike 86 = .ok (.if_icmp .ne 25, 3) := by decide +kernel
theorem dX2_alike_89 : decode cX2_alike 89 = .ok (.iload_n 3, 1) := by decide +kernel
theorem dX2_alike_90 : decode cX2_alike 90 = .ok (.iload 5, 2) := by decide +kernel
theorem dX2_alike_92 : decode cX2_alike 92 = .ok (.if_icmp .eq 7, 3) := by decide +kernel
theorem dX2_alike_95 : decode cX2_alike 95 = .ok (.iconst 1, 1) := by decide +kernel
theorem dX2_alike_96 : decode cX2_alike 96 = .ok (.goto 14, 3) := by decide +kernel
theorem dX2_alike_99 : decode cX2_alike 99 = .ok (.iload_n 3, 1) := by decide +kernel
theorem dX2_alike_100 : decode cX2_alike 100 = .ok (.iload 4, 2) := by decide +kernel
theorem dX2_alike_102 : decode cX2_alike 102 = .ok (.if_icmp .eq 7, 3) := by decide +kernel
theorem dX2_alike_105 : decode cX2_alike 105 = .ok (.iconst 2, 1) := by decide +kernel
theorem dX2_alike_106 : decode cX2_alike 106 = .ok (.goto 4, 3) := by decide +kernel
theorem dX2_alike_109 : decode cX2_alike 109 = .ok (.iconst 0, 1) := by decide +kernel
theorem dX2_alike_110 : decode cX2_alike 110 = .ok (.ireturn, 1) := by decide +kernel
theorem dX2_alike_111 : decode cX2_alike 111 = .ok (.iload_n 3, 1) := by decide +kernel
theorem dX2_alike_112 : decode cX2_alike 112 = .ok (.ifCond .ne 7, 3) := by decide +kernel
theorem dX2_alike_115 : decode cX2_alike 115 = .ok (.iconst 3, 1) := by decide +kernel
theorem dX2_alike_116 : decode cX2_alike 116 = .ok (.goto 4, 3) := by decide +kernel
theorem dX2_alike_119 : decode cX2_alike 119 = .ok (.iconst 4, 1) := by decide +kernel
theorem dX2_alike_120 : decode cX2_alike 120 = .ok (.ireturn, 1) := by decide +kernel
set_option maxRecDepth 20000 in
theorem ggX2_copy_X2_isIn : GoodIn wsX2_copy wsX2_isIn := goodIn_r _ [6, 1, 7, 8, 9, 10, 11, 12, 13, 14, 15, 16, 17, 18, 19, 20, 21] (by decide +kernel) (by decide +kernel)
set_option maxRecDepth 20000 in
theorem gX2_copy_X2_isIn : GoodIn wsX2_copy (wsV RX2 84 RX2 yX2_isIn wsX2_isIn) := goodIn_app (goodIn_of _ (by decide +kernel)) ggX2_copy_X2_isIn
theorem dX2_copy_0 : decode cX2_copy 0 = .ok (.iconst 0, 1) := by decide +kernel
theorem dX2_copy_1 : decode cX2_copy 1 = .ok (.istore_n 3, 1) := by decide +kernel
theorem dX2_copy_2 : decode cX2_copy 2 = .ok (.iload_n 3, 1) := by decide +kernel
theorem dX2_copy_3 : decode cX2_copy 3 = .ok (.sipush 2401, 3) := by decide +kernel
theorem dX2_copy_6 : decode cX2_copy 6 = .ok (.if_icmp .ge 27, 3) := by decide +kernel
theorem dX2_copy_9 : decode cX2_copy 9 = .ok (.aload_n 0, 1) := by decide +kernel
theorem dX2_copy_10 : decode cX2_copy 10 = .ok (.getfield 19, 3) := by decide +kernel
theorem dX2_copy_13 : decode cX2_copy 13 = .ok (.sipush 2401, 3) := by decide +kernel
theorem dX2_copy_16 : decode cX2_copy 16 = .ok (.iload_n 2, 1) := by decide +kernel
theorem dX2_copy_17 : decode cX2_copy 17 = .ok (.imul, 1) := by decide +kernel
theorem dX2_copy_18 : decode cX2_copy 18 = .ok (.iload_n 3, 1) := by decide +kernel
theorem dX2_copy_19 : decode cX2_copy 19 = .ok (.iadd, 1) := by decide +kernel
theorem dX2_copy_20 : decode cX2_copy 20 = .ok (.aload_n 0, 1) := by decide +kernel
theorem dX2_copy_21 : decode cX2_copy 21 = .ok (.iload_n 1, 1) := by decide +kernel
theorem dX2_copy_22 : decode cX2_copy 22 = .ok (.iload_n 3, 1) := by decide +kernel
theorem dX2_copy_23 : decode cX2_copy 23 = .ok (.invokevirtual 84, 3) := by decide +kernel
theorem dX2_copy_26 : decode cX2_copy 26 = .ok (.bastore, 1) := by decide +kernel
theorem dX2_copy_27 : decode cX2_copy 27 = .ok (.iinc 3 1, 3) := by decide +kernel
theorem dX2_copy_30 : decode cX2_copy 30 = .ok (.goto (-28), 3) := by decide +kernel
theorem dX2_copy_33 : decode cX2_copy 33 = .ok (.return_, 1) := by decide +kernel
set_option maxRecDepth 20000 in
theorem ggX2_image_X2_in : GoodIn wsX2_image wsX2_in := goodIn_r _ [5] (by decide +kernel) (by decide +kernel)
set_option maxRecDepth 20000 in
theorem gX2_image_X2_in : GoodIn wsX2_image (va_wsS RX2 54 yX2_in wsX2_in) := goodIn_app (goodIn_of _ (by decide +kernel)) ggX2_image_X2_in
set_option maxRecDepth 20000 in
theorem ggX2_image_X2_copy : GoodIn wsX2_image wsX2_copy := goodIn_r _ [9, 10, 11, 12, 13, 4, 14, 15, 16, 17, 18, 19, 20, 21, 22, 23, 24, 25, 26, 27, 28, 29] (by decide +kernel) (by decide +kernel)
set_option maxRecDepth 20000 in
theorem gX2_image_X2_copy : GoodIn wsX2_image (wsV RX2 134 RX2 yX2_copy wsX2_copy) := goodIn_app (goodIn_of _ (by decide +kernel)) ggX2_image_X2_copy
theorem dX2_image_0 : decode cX2_image 0 = .ok (.iload_n 1, 1) := by decide +kernel
theorem dX2_image_1 : decode cX2_image 1 = .ok (.iconst 0, 1) := by decide +kernel
theorem dX2_image_2 : decode cX2_image 2 = .ok (.iconst 1, 1) := by decide +kernel
theorem dX2_image_3 : decode cX2_image 3 = .ok (.invokestatic 54, 3) := by decide +kernel
theorem dX2_image_6 : decode cX2_image 6 = .ok (.ifCond .ne 6, 3) := by decide +kernel
theorem dX2_image_9 : decode cX2_image 9 = .ok (.bipush (-2), 2) := by decide +kernel
theorem dX2_image_11 : decode cX2_image 11 = .ok (.ireturn, 1) := by decide +kernel
theorem dX2_image_12 : decode cX2_image 12 = .ok (.iconst 0, 1) := by decide +kernel
theorem dX2_image_13 : decode cX2_image 13 = .ok (.istore_n 2, 1) := by decide +kernel
theorem dX2_image_14 : decode cX2_image 14 = .ok (.iload_n 2, 1) := by decide +kernel
theorem dX2_image_15 : decode cX2_image 15 = .ok (.iconst 4, 1) := by decide +kernel
theorem dX2_image_16 : decode cX2_image 16 = .ok (.if_icmp .ge 21, 3) := by decide +kernel
theorem dX2_image_19 : decode cX2_image 19 = .ok (.aload_n 0, 1) := by decide +kernel
theorem dX2_image_20 : decode cX2_image 20 = .ok (.iload_n 2, 1) := by decide +kernel
theorem dX2_image_21 : decode cX2_image 21 = .ok (.iconst 4, 1) := by decide +kernel
theorem dX2_image_22 : decode cX2_image 22 = .ok (.iconst 4, 1) := by decide +kernel
theorem dX2_image_23 : decode cX2_image 23 = .ok (.iload_n 1, 1) := by decide +kernel
theorem dX2_image_24 : decode cX2_image 24 = .ok (.imul, 1) := by decide +kernel
theorem dX2_image_25 : decode cX2_image 25 = .ok (.iadd, 1) := by decide +kernel
theorem dX2_image_26 : decode cX2_image 26 = .ok (.iload_n 2, 1) := by decide +kernel
theorem dX2_image_27 : decode cX2_image 27 = .ok (.iadd, 1) := by decide +kernel
theorem dX2_image_28 : decode cX2_image 28 = .ok (.invokevirtual 134, 3) := by decide +kernel
theorem dX2_image_31 : decode cX2_image 31 = .ok (.iinc 2 1, 3) := by decide +kernel
theorem dX2_image_34 : decode cX2_image 34 = .ok (.goto (-20), 3) := by decide +kernel
theorem dX2_image_37 : decode cX2_image 37 = .ok (.aload_n 0, 1) := by decide +kernel
theorem dX2_image_38 : decode cX2_image 38 = .ok (.getfield 23, 3) := by decide +kernel
theorem dX2_image_41 : decode cX2_image 41 = .ok (.iload_n 1, 1) := by decide +kernel
theorem dX2_image_42 : decode cX2_image 42 = .ok (.iconst 1, 1) := by decide +kernel
theorem dX2_image_43 : decode cX2_image 43 = .ok (.bastore, 1) := by decide +kernel
theorem dX2_image_44 : decode cX2_image 44 = .ok (.iconst 1, 1) := by decide +kernel
theorem dX2_image_45 : decode cX2_image 45 = .ok (.ireturn, 1) := by decide +kernel
set_option maxRecDepth 20000 in
theorem ggX2_restore_X2_in : GoodIn wsX2_restore wsX2_in := goodIn_r _ [5] (by decide +kernel) (by decide +kernel)
set_option maxRecDepth 20000 in
theorem gX2_restore_X2_in : GoodIn wsX2_restore (va_wsS RX2 54 yX2_in wsX2_in) := goodIn_app (goodIn_of _ (by decide +kernel)) ggX2_restore_X2_in
set_option maxRecDepth 20000 in
theorem ggX2_restore_X2_copy : GoodIn wsX2_restore wsX2_copy := goodIn_r _ [9, 10, 11, 12, 13, 4, 14, 15, 16, 17, 18, 19, 20, 21, 22, 23, 24, 25, 26, 27, 28, 29] (by decide +kernel) (by decide +kernel)
set_option maxRecDepth 20000 in
theorem gX2_restore_X2_copy : GoodIn wsX2_restore (wsV RX2 134 RX2 yX2_copy wsX2_copy) := goodIn_app (goodIn_of _ (by decide +kernel)) ggX2_restore_X2_copy
theorem dX2_restore_0 : decode cX2_restore 0 = .ok (.iload_n 1, 1) := by decide +kernel
theorem dX2_restore_1 : decode cX2_restore 1 = .ok (.iconst 0, 1) := by decide +kernel
theorem dX2_restore_2 : decode cX2_restore 2 = .ok (.iconst 1, 1) := by decide +kernel
theorem dX2_restore_3 : decode cX2_restore 3 = .ok (.invokestatic 54, 3) := by decide +kernel
theorem dX2_restore_6 : decode cX2_restore 6 = .ok (.ifCond .ne 6, 3) := by decide +kernel
theorem dX2_restore_9 : decode cX2_restore 9 = .ok (.bipush (-2), 2) := by decide +kernel
theorem dX2_restore_11 : decode cX2_restore 11 = .ok (.ireturn, 1) := by decide +kernel
theorem dX2_restore_12 : decode cX2_restore 12 = .ok (.aload_n 0, 1) := by decide +kernel
theorem dX2_restore_13 : decode cX2_restore 13 = .ok (.getfield 23, 3) := by decide +kernel
theorem dX2_restore_16 : decode cX2_restore 16 = .ok (.iload_n 1, 1) := by decide +kernel
theorem dX2_restore_17 : decode cX2_restore 17 = .ok (.baload, 1) := by decide +kernel
theorem dX2_restore_18 : decode cX2_restore 18 = .ok (.ifCond .ne 6, 3) := by decide +kernel
theorem dX2_restore_21 : decode cX2_restore 21 = .ok (.bipush (-3), 2) := by decide +kernel
theorem dX2_restore_23 : decode cX2_restore 23 = .ok (.ireturn, 1) := by decide +kernel
theorem dX2_restore_24 : decode cX2_restore 24 = .ok (.iconst 0, 1) := by decide +kernel
theorem dX2_restore_25 : decode cX2_restore 25 = .ok (.istore_n 2, 1) := by decide +kernel
theorem dX2_restore_26 : decode cX2_restore 26 = .ok (.iload_n 2, 1) := by decide +kernel
theorem dX2_restore_27 : decode cX2_restore 27 = .ok (.iconst 4, 1) := by decide +kernel
theorem dX2_restore_28 : decode cX2_restore 28 = .ok (.if_icmp .ge 21, 3) := by decide +kernel
theorem dX2_restore_31 : decode cX2_restore 31 = .ok (.aload_n 0, 1) := by decide +kernel
theorem dX2_restore_32 : decode cX2_restore 32 = .ok (.iconst 4, 1) := by decide +kernel
theorem dX2_restore_33 : decode cX2_restore 33 = .ok (.iconst 4, 1) := by decide +kernel
theorem dX2_restore_34 : decode cX2_restore 34 = .ok (.iload_n 1, 1) := by decide +kernel
theorem dX2_restore_35 : decode cX2_restore 35 = .ok (.imul, 1) := by decide +kernel
theorem dX2_restore_36 : decode cX2_restore 36 = .ok (.iadd, 1) := by decide +kernel
theorem dX2_restore_37 : decode cX2_restore 37 = .ok (.iload_n 2, 1) := by decide +kernel
theorem dX2_restore_38 : decode cX2_restore 38 = .ok (.iadd, 1) := by decide +kernel
theorem dX2_restore_39 : decode cX2_restore 39 = .ok (.iload_n 2, 1) := by decide +kernel
theorem dX2_restore_40 : decode cX2_restore 40 = .ok (.invokevirtual 134, 3) := by decide +kernel
theorem dX2_restore_43 : decode cX2_restore 43 = .ok (.iinc 2 1, 3) := by decide +kernel
theorem dX2_restore_46 : decode cX2_restore 46 = .ok (.goto (-20), 3) := by decide +kernel
theorem dX2_restore_49 : decode cX2_restore 49 = .ok (.iconst 1, 1) := by decide +kernel
theorem dX2_restore_50 : decode cX2_restore 50 = .ok (.ireturn, 1) := by decide +kernel
set_option maxRecDepth 20000 in
theorem ggX2_all_X2_isIn : GoodIn wsX2_all wsX2_isIn := goodIn_r _ [5, 6, 7, 8, 9, 10, 11, 12, 13, 14, 15, 16, 17, 18, 19, 20, 21] (by decide +kernel) (by decide +kernel)
set_option maxRecDepth 20000 in
theorem gX2_all_X2_isIn : GoodIn wsX2_all (wsV RX2 84 RX2 yX2_isIn wsX2_isIn) := goodIn_app (goodIn_of _ (by decide +kernel)) ggX2_all_X2_isIn
theorem dX2_all_0 : decode cX2_all 0 = .ok (.iconst 0, 1) := by decide +kernel
theorem dX2_all_1 : decode cX2_all 1 = .ok (.istore_n 1, 1) := by decide +kernel
theorem dX2_all_2 : decode cX2_all 2 = .ok (.iconst 0, 1) := by decide +kernel
theorem dX2_all_3 : decode cX2_all 3 = .ok (.istore_n 2, 1) := by decide +kernel
theorem dX2_all_4 : decode cX2_all 4 = .ok (.iload_n 2, 1) := by decide +kernel
theorem dX2_all_5 : decode cX2_all 5 = .ok (.sipush 2401, 3) := by decide +kernel
theorem dX2_all_8 : decode cX2_all 8 = .ok (.if_icmp .ge 53, 3) := by decide +kernel
theorem dX2_all_11 : decode cX2_all 11 = .ok (.iload_n 1, 1) := by decide +kernel
theorem dX2_all_12 : decode cX2_all 12 = .ok (.aload_n 0, 1) := by decide +kernel
theorem dX2_all_13 : decode cX2_all 13 = .ok (.iconst 0, 1) := by decide +kernel
theorem dX2_all_14 : decode cX2_all 14 = .ok (.iload_n 2, 1) := by decide +kernel
theorem dX2_all_15 : decode cX2_all 15 = .ok (.invokevirtual 84, 3) := by decide +kernel
theorem dX2_all_18 : decode cX2_all 18 = .ok (.ifCond .ne 30, 3) := by decide +kernel
theorem dX2_all_21 : decode cX2_all 21 = .ok (.aload_n 0, 1) := by decide +kernel
theorem dX2_all_22 : decode cX2_all 22 = .ok (.iconst 1, 1) := by decide +kernel
theorem dX2_all_23 : decode cX2_all 23 = .ok (.iload_n 2, 1) := by decide +kernel
theorem dX2_all_24 : decode cX2_all 24 = .ok (.invokevirtual 84, 3) := by decide +kernel
theorem dX2_all_27 : decode cX2_all 27 = .ok (.ifCond .ne 21, 3) := by decide +kernel
theorem dX2_all_30 : decode cX2_all 30 = .ok (.aload_n 0, 1) := by decide +kernel
theorem dX2_all_31 : decode cX2_all 31 = .ok (.iconst 2, 1) := by decide +kernel
theorem dX2_all_32 : decode cX2_all 32 = .ok (.iload_n 2, 1) := by decide +kernel
theorem dX2_all_33 : decode cX2_all 33 = .ok (.invokevirtual 84, 3) := by decide +kernel
theorem dX2_all_36 : decode cX2_all 36 = .ok (.ifCond .ne 12, 3) := by decide +kernel
theorem dX2_all_39 : decode cX2_all 39 = .ok (.aload_n 0, 1) := by decide +kernel
theorem dX2_all_40 : decode cX2_all 40 = .ok (.iconst 3, 1) := by decide +kernel
theorem dX2_all_41 : decode cX2_all 41 = .ok (.iload_n 2, 1) := by decide +kernel
theorem dX2_all_42 : decode cX2_all 42 = .ok (.invokevirtual 84, 3) := by decide +kernel
theorem dX2_all_45 : decode cX2_all 45 = .ok (.ifCond .eq 7, 3) := by decide +kernel
theorem dX2_all_48 : decode cX2_all 48 = .ok (.iconst 1, 1) := by decide +kernel
theorem dX2_all_49 : decode cX2_all 49 = .ok (.goto 4, 3) := by decide +kernel
theorem dX2_all_52 : decode cX2_all 52 = .ok (.iconst 0, 1) := by decide +kernel
theorem dX2_all_53 : decode cX2_all 53 = .ok (.iadd, 1) := by decide +kernel
theorem dX2_all_54 : decode cX2_all 54 = .ok (.istore_n 1, 1) := by decide +kernel
theorem dX2_all_55 : decode cX2_all 55 = .ok (.iinc 2 1, 3) := by decide +kernel
theorem dX2_all_58 : decode cX2_all 58 = .ok (.goto (-54), 3) := by decide +kernel
theorem dX2_all_61 : decode cX2_all 61 = .ok (.iload_n 1, 1) := by decide +kernel
theorem dX2_all_62 : decode cX2_all 62 = .ok (.ireturn, 1) := by decide +kernel
set_option maxRecDepth 20000 in
theorem ggX2_allPacked_X2_pack : GoodIn wsX2_allPacked wsX2_pack := goodIn_r _ [6, 1, 7, 8, 9, 10, 5, 11, 12, 13, 14, 15, 16, 17, 18, 19, 20, 21, 22, 23, 24, 25, 26, 27, 28, 29, 30, 31, 32, 33, 34, 35, 36, 37, 38] (by decide +kernel) (by decide +kernel)
set_option maxRecDepth 20000 in
theorem gX2_allPacked_X2_pack : GoodIn wsX2_allPacked (wsV RX2 120 RX2 yX2_pack wsX2_pack) := goodIn_app (goodIn_of _ (by decide +kernel)) ggX2_allPacked_X2_pack
theorem dX2_allPacked_0 : decode cX2_allPacked 0 = .ok (.iconst 0, 1) := by decide +kernel
theorem dX2_allPacked_1 : decode cX2_allPacked 1 = .ok (.istore_n 1, 1) := by decide +kernel
theorem dX2_allPacked_2 : decode cX2_allPacked 2 = .ok (.iconst 0, 1) := by decide +kernel
theorem dX2_allPacked_3 : decode cX2_allPacked 3 = .ok (.istore_n 2, 1) := by decide +kernel
theorem dX2_allPacked_4 : decode cX2_allPacked 4 = .ok (.iload_n 2, 1) := by decide +kernel
theorem dX2_allPacked_5 : decode cX2_allPacked 5 = .ok (.iconst 4, 1) := by decide +kernel
theorem dX2_allPacked_6 : decode cX2_allPacked 6 = .ok (.if_icmp .ge 21, 3) := by decide +kernel
theorem dX2_allPacked_9 : decode cX2_allPacked 9 = .ok (.aload_n 0, 1) := by decide +kernel
theorem dX2_allPacked_10 : decode cX2_allPacked 10 = .ok (.iload_n 2, 1) := by decide +kernel
theorem dX2_allPacked_11 : decode cX2_allPacked 11 = .ok (.invokevirtual 120, 3) := by decide +kernel
theorem dX2_allPacked_14 : decode cX2_allPacked 14 = .ok (.iload_n 1, 1) := by decide +kernel
theorem dX2_allPacked_15 : decode cX2_allPacked 15 = .ok (.aload_n 0, 1) := by decide +kernel
theorem dX2_allPacked_16 : decode cX2_allPacked 16 = .ok (.getfield 100, 3) := by decide +kernel
theorem dX2_allPacked_19 : decode cX2_allPacked 19 = .ok (.iadd, 1) := by decide +kernel
theorem dX2_allPacked_20 : decode cX2_allPacked 20 = .ok (.istore_n 1, 1) := by decide +kernel
theorem dX2_allPacked_21 : decode cX2_allPacked 21 = .ok (.iinc 2 1, 3) := by decide +kernel
theorem dX2_allPacked_24 : decode cX2_allPacked 24 = .ok (.goto (-20), 3) := by decide +kernel
theorem dX2_allPacked_27 : decode cX2_allPacked 27 = .ok (.iload_n 1, 1) := by decide +kernel
theorem dX2_allPacked_28 : decode cX2_allPacked 28 = .ok (.ireturn, 1) := by decide +kernel
set_option maxRecDepth 20000 in
theorem ggX2_count_X2_all : GoodIn wsX2_count wsX2_all := goodIn_r _ [6, 7, 8, 9, 5, 10, 11, 33, 34, 35, 36, 37, 38, 39, 40, 41, 42, 43, 44, 45, 46, 47] (by decide +kernel) (by decide +kernel)
set_option maxRecDepth 20000 in
theorem gX2_count_X2_all : GoodIn wsX2_count (wsV RX2 138 RX2 yX2_all wsX2_all) := goodIn_app (goodIn_of _ (by decide +kernel)) ggX2_count_X2_all
set_option maxRecDepth 20000 in
theorem ggX2_count_X2_allPacked : GoodIn wsX2_count wsX2_allPacked := goodIn_r _ [15, 16, 17, 18, 19, 5, 20, 21, 22, 23, 24, 25, 26, 27, 28, 29, 30, 31, 32, 7, 8, 9, 10, 11, 33, 34, 35, 36, 37, 38, 39, 40, 41, 42, 43, 44, 45, 46, 47] (by decide +kernel) (by decide +kernel)
set_option maxRecDepth 20000 in
theorem gX2_count_X2_allPacked : GoodIn wsX2_count (wsV RX2 142 RX2 yX2_allPacked wsX2_allPacked) := goodIn_app (goodIn_of _ (by decide +kernel)) ggX2_count_X2_allPacked
theorem dX2_count_0 : decode cX2_count 0 = .ok (.iload_n 1, 1) := by decide +kernel
theorem dX2_count_1 : decode cX2_count 1 = .ok (.ifCond .ne 10, 3) := by decide +kernel
theorem dX2_count_4 : decode cX2_count 4 = .ok (.aload_n 0, 1) := by decide +kernel
theorem dX2_count_5 : decode cX2_count 5 = .ok (.invokevirtual 138, 3) := by decide +kernel
theorem dX2_count_8 : decode cX2_count 8 = .ok (.goto 54, 3) := by decide +kernel
theorem dX2_count_11 : decode cX2_count 11 = .ok (.iload_n 1, 1) := by decide +kernel
theorem dX2_count_12 : decode cX2_count 12 = .ok (.iconst 1, 1) := by decide +kernel
theorem dX2_count_13 : decode cX2_count 13 = .ok (.if_icmp .ne 10, 3) := by decide +kernel
theorem dX2_count_16 : decode cX2_count 16 = .ok (.aload_n 0, 1) := by decide +kernel
theorem dX2_count_17 : decode cX2_count 17 = .ok (.invokevirtual 142, 3) := by decide +kernel
theorem dX2_count_20 : decode cX2_count 20 = .ok (.goto 42, 3) := by decide +kernel
theorem dX2_count_23 : decode cX2_count 23 = .ok (.iload_n 1, 1) := by decide +kernel
theorem dX2_count_24 : decode cX2_count 24 = .ok (.iconst 2, 1) := by decide +kernel
theorem dX2_count_25 : decode cX2_count 25 = .ok (.if_icmp .ne 35, 3) := by decide +kernel
theorem dX2_count_28 : decode cX2_count 28 = .ok (.aload_n 0, 1) := by decide +kernel
theorem dX2_count_29 : decode cX2_count 29 = .ok (.getfield 23, 3) := by decide +kernel
theorem dX2_count_32 : decode cX2_count 32 = .ok (.iconst 0, 1) := by decide +kernel
theorem dX2_count_33 : decode cX2_count 33 = .ok (.baload, 1) := by decide +kernel
theorem dX2_count_34 : decode cX2_count 34 = .ok (.ifCond .eq 7, 3) := by decide +kernel
theorem dX2_count_37 : decode cX2_count 37 = .ok (.iconst 1, 1) := by decide +kernel
theorem dX2_count_38 : decode cX2_count 38 = .ok (.goto 4, 3) := by decide +kernel
theorem dX2_count_41 : decode cX2_count 41 = .ok (.iconst 0, 1) := by decide +kernel
theorem dX2_count_42 : decode cX2_count 42 = .ok (.aload_n 0, 1) := by decide +kernel
theorem dX2_count_43 : decode cX2_count 43 = .ok (.getfield 23, 3) := by decide +kernel
theorem dX2_count_46 : decode cX2_count 46 = .ok (.iconst 1, 1) := by decide +kernel
theorem dX2_count_47 : decode cX2_count 47 = .ok (.baload, 1) := by decide +kernel
theorem dX2_count_48 : decode cX2_count 48 = .ok (.ifCond .eq 7, 3) := by decide +kernel
theorem dX2_count_51 : decode cX2_count 51 = .ok (.iconst 2, 1) := by decide +kernel
theorem dX2_count_52 : decode cX2_count 52 = .ok (.goto 4, 3) := by decide +kernel
theorem dX2_count_55 : decode cX2_count 55 = .ok (.iconst 0, 1) := by decide +kernel
theorem dX2_count_56 : decode cX2_count 56 = .ok (.iadd, 1) := by decide +kernel
theorem dX2_count_57 : decode cX2_count 57 = .ok (.goto 5, 3) := by decide +kernel
theorem dX2_count_60 : decode cX2_count 60 = .ok (.bipush (-2), 2) := by decide +kernel
theorem dX2_count_62 : decode cX2_count 62 = .ok (.ireturn, 1) := by decide +kernel
end
section
/-! my own rows: contracts of two kinds (Rd: reads only; Wr: writes within A, makes nothing), their calls and ends, and rows over nI and truths -/
def bI (b : Bool) : Int32 := if b then 1 else 0
def oI (o : Option Nat) : Int32 := match o with
  | none => -6
  | some k => nI k
def HB (B : State → Prop) : Prop := ∀ U V : State, U.heap = V.heap → U.vm = V.vm → B U → B V
def Rd (l : Launch) (y : MethodName) (ws : List Cond) (rm : Room) (As : List Value) (B : State → Prop) (v : Int32) : Prop :=
  Met l y ws rm (va_Pc As B) (vp_Si (fun r => r = v)) 0 0 (fun _ => False)
def qW (o : Option Value) (P : Heap → Prop) (A : Nat → Prop) : Array Value → State → Outcome → State → Prop := fun _ st oc t => oc = .returned o ∧ P t.heap ∧ va_F A st t
def Wr (l : Launch) (y : MethodName) (ws : List Cond) (rm : Room) (As : List Value) (B : State → Prop) (o : Option Value) (P : Heap → Prop) (A : Nat → Prop) : Prop :=
  Met l y ws rm (va_Pc As B) (qW o P A) 0 0 A
theorem HB.fb {B : State → Prop} (h : HB B) (As : List Value) : FrameBlind (va_Pc As B) := fun _ U _ _ q => ⟨q.1, h U _ rfl rfl q.2⟩
theorem HB.tt : HB (fun _ => True) := fun _ _ _ _ _ => trivial
def nfOk (y : MethodName) (n : Nat) : Prop := y.cls ≠ "java/lang/invoke/MethodHandle" ∧ y.cls ≠ "java/lang/invoke/VarHandle" ∧ (parseMethodDescriptor y.desc).map (fun d => d.parameters.length) = some n
theorem met_in {l : Launch} {y : MethodName} {ws ws' : List Cond} {rm : Room} {av : List Value} {B : State → Prop} {Qc : Array Value → State → Outcome → State → Prop} {mc ms : Nat} {free : Addr → Prop} {cc : ByteArray} {maxL : Nat} {ret : Option FieldType} (own : String)
    (hy : plainName y.cls = true) (hw : ws = Cond.code y cc maxL ret :: ws') (ho : y.cls = own) (hlen : (lg_sl av).length ≤ maxL)
    (body : ∀ (p : Program) (e : Env) (s : State) (m : MethodId) (below : List Frame) (meth : Method) (c : Code) (ls : Array Slot), CallFix p m c cc maxL s av.toArray ws own → meth.sig.returnType = ret → meth.locks = false → lv_has ls maxL (lv_args 0 av) → B s →
      W p l e (headSpec ws rm).room s m av.toArray below meth c s.heap [] 0 0 (MQ below Qc av.toArray s mc ms free) (F0 m 0 ls [])) : Met l y ws rm (va_Pc av B) Qc mc ms free := by
  refine Met.ofW (cc := cc) (maxL := maxL) (ret := ret) hy hw ?_
  intro p e s m args below meth c s₁ B0 hml hv
  obtain ⟨rfl, hB⟩ := hv
  have hl := lv_entry av (n := maxL) hlen
  rw [lg_entry_eq]
  generalize (lg_sl av ++ List.replicate (maxL - (lg_sl av).length) Slot.unset).toArray = ls at hl ⊢
  exact body p e s m below meth c ls ⟨B0.exec, B0.bytes, hml, by rw [← ho]; exact findClass_of_methodNamed B0.named, atoms_spec (ws := ws) B0.pre⟩ B0.returns B0.notSynchronized hl hB
def roomOk (rm R : Room) (maxL cells slots : Nat) (rest : List Value) : Bool := Nat.ble (rm.frames + 1) R.frames && Nat.ble (8 + (maxL + 11) + rm.locals) R.locals && Nat.ble cells R.cells && Nat.ble slots R.slots && Nat.ble ((rest.map fun v => v.category).sum) 8 && Nat.beq rm.cells 0 && Nat.beq rm.slots 0
theorem roomOk.all {rm R : Room} {maxL cells slots : Nat} {rest : List Value} (h : roomOk rm R maxL cells slots rest = true) : rm.frames + 1 ≤ R.frames ∧ 8 + (maxL + 11) + rm.locals ≤ R.locals ∧ cells ≤ R.cells ∧ slots ≤ R.slots ∧ (rest.map fun v => v.category).sum ≤ 8 ∧ rm.cells = 0 ∧ rm.slots = 0 := by
  unfold roomOk at h
  simp only [Bool.and_eq_true] at h
  obtain ⟨⟨⟨⟨⟨⟨h1, h2⟩, h3⟩, h4⟩, h5⟩, h6⟩, h7⟩ := h
  exact ⟨Nat.le_of_ble_eq_true h1, Nat.le_of_ble_eq_true h2, Nat.le_of_ble_eq_true h3, Nat.le_of_ble_eq_true h4, Nat.le_of_ble_eq_true h5, Nat.eq_of_beq_eq_true h6, Nat.eq_of_beq_eq_true h7⟩
section BASE
variable {p : Program} {l : Launch} {e : Env} {R : Room} {s : State} {m : MethodId} {args : Array Value} {below : List Frame} {meth : Method} {c : Code} {H : Heap} {locs : List Loc} {cells slots : Nat} {Q : State → Prop}
variable {cc : ByteArray} {pc : Nat} {ls : Array Slot} {rest st0 : List Value} {nL : Nat} {Ts ws ws' : List Cond} {own C host : String} {lvs : List (Nat × Value)} {y : MethodName} {rm : Room} {As : List Value} {B : State → Prop} {v : Int32} {index n maxL : Nat} {bytes : ByteArray} {ret : Option FieldType} {b : Addr} {o : Option Value} {P : Heap → Prop} {A0 A1 : Nat → Prop} {H0 : Heap}
theorem rd_S (S : CallFix p m c cc nL s args Ts own) (hl : lv_has ls nL lvs) (hM : Rd l y ws rm As B v) (hB0 : HB B) (hG : GoodIn Ts (va_wsS own index y ws)) (hw : ws = Cond.code y bytes maxL ret :: ws') (hd : nfOk y As.length) (hR : roomOk rm R maxL cells slots rest = true) (hst : st0 = As.reverse ++ rest) (hdg : decode cc pc = .ok (.invokestatic index, 3)) (hB : ∀ U : State, U.heap = H → s.WarmedH U.vm → B U)
    (kk : W p l e R s m args below meth c H locs cells slots Q (F0 m (pc + 3) ls (.int v :: rest))) : W p l e R s m args below meth c H locs cells slots Q (F0 m pc ls st0) := by
  obtain ⟨r1, r2, r3, r4, r5, r6, r7⟩ := roomOk.all hR
  exact vp_callSi (W.runS S hM (va_cwS As.length S.2.2.2.2 hG hw r6 r7 hd ⟨r1, r2⟩) ⟨hB0.fb As, fun U h1 h2 => ⟨rfl, hB U h1 h2⟩⟩ rfl rfl hl.1 hst (lv_room r5) hdg ⟨r3, r4⟩) (fun r hr => by rw [hr]; exact kk)
theorem rd_V (S : CallFix p m c cc nL s args Ts own) (hl : lv_has ls nL lvs) (hM : Rd l y ws rm (.ref b :: As) B v) (hB0 : HB B) (hG : GoodIn Ts (wsV own index C y ws)) (hw : ws = Cond.code y bytes maxL ret :: ws') (hC : y.cls = C) (hd : nfOk y As.length) (hR : roomOk rm R maxL cells slots rest = true) (hst : st0 = As.reverse ++ .ref b :: rest) (hdg : decode cc pc = .ok (.invokevirtual index, 3))
    (hrc : ∃ cell : Cell, H[b]? = some cell ∧ cell.vm.isStatics = false ∧ s.vm.findClass C = some cell.cls) (hB : ∀ U : State, U.heap = H → s.WarmedH U.vm → B U)
    (kk : W p l e R s m args below meth c H locs cells slots Q (F0 m (pc + 3) ls (.int v :: rest))) : W p l e R s m args below meth c H locs cells slots Q (F0 m pc ls st0) := by
  obtain ⟨r1, r2, r3, r4, r5, r6, r7⟩ := roomOk.all hR
  exact vp_callSi (W.runV S hM (cwV As.length S.2.2.2.2 hG hw r6 r7 ⟨hC, hd⟩ ⟨r1, r2⟩) ⟨hB0.fb _, hrc, fun U h1 h2 => ⟨rfl, hB U h1 h2⟩⟩ rfl rfl hl.1 hst (lv_room r5) hdg ⟨r3, r4⟩) (fun r hr => by rw [hr]; exact kk)
theorem run_of {mc ms : Nat} {g : JFrame} {Qa : State → Outcome → State → Prop} {free : Addr → Prop} (h : va_Run p l e R s m args below meth c H locs cells slots mc ms g rest Qa free) : CallRun p l e R s m args below meth c H locs cells slots mc ms g rest Qa free := by
  intro T hT X
  obtain ⟨v, st₀, t, T', L, h0, X', hL, e1, -, hq, st⟩ := h T hT X
  exact ⟨v, st₀, t, T', L, h0, X', hL, e1, hq, st⟩
theorem rd_SN (S : CallFix p m c cc nL s args Ts own) (hl : lv_has ls nL lvs) (hM : Rd l y ws rm As B v) (hB0 : HB B) (hG : GoodIn Ts ws) (hw : ws = Cond.code y bytes maxL ret :: ws') (hd : nfOk y As.length) (hR : roomOk rm R maxL cells slots rest = true) (hst : st0 = As.reverse ++ rest) (hdg : decode cc pc = .ok (.invokestatic index, 3)) (hN : va_Nw (.methodLinkNest own index y host) s) (hi : (Cond.initialized y.cls).before args s = true) (hs : (Cond.static y).before args s = true) (hB : ∀ U : State, U.heap = H → s.WarmedH U.vm → B U)
    (kk : W p l e R s m args below meth c H locs cells slots Q (F0 m (pc + 3) ls (.int v :: rest))) : W p l e R s m args below meth c H locs cells slots Q (F0 m pc ls st0) := by
  obtain ⟨r1, r2, r3, r4, r5, r6, r7⟩ := roomOk.all hR
  exact vp_callSi (run_of (va_runSN S hM ⟨va_cnB As.length S.2.2.2.2 hG hw r6 r7 hN hi hd ⟨r1, r2⟩, hs, trivial⟩ ⟨hB0.fb As, fun U h1 h2 => ⟨rfl, hB U h1 h2⟩⟩ rfl rfl hl.1 hst (lv_room r5) hdg ⟨r3, r4⟩)) (fun r hr => by rw [hr]; exact kk)
theorem wr_go {a : Array Value} (hr : CallRun p l e R s m args below meth c H locs cells slots 0 0 (F0 m pc ls st0) rest (qW o P A1 a) A1) (hS : va_S A0 H0 H locs) (hA : ∀ q, A1 q → A0 q)
    (kk : ∀ (H1 : Heap) (locs1 : List Loc), P H1 → va_S A0 H0 H1 locs1 → H.size ≤ H1.size → (∀ q : Nat, q < H.size → ¬ A1 q → H1[q]? = H[q]?) → W p l e R s m args below meth c H1 locs1 cells slots Q (F0 m (pc + 3) ls (o.toList ++ rest))) : W p l e R s m args below meth c H locs cells slots Q (F0 m pc ls st0) := by
  intro T hT X
  obtain ⟨v, st₀, t, T', L, h0, X', hL, e1, ⟨hv, hp, hz, hk⟩, st⟩ := hr T hT X
  cases hv
  rw [h0] at hz hk
  obtain ⟨t2, a1, b1⟩ := kk t.heap (locs ++ L) hp ⟨Nat.le_trans hS.1 hz, fun q h1 h2 => by rw [hk q (Nat.lt_of_lt_of_le h1 hS.1) (fun z => h2 (hA q z))]; exact hS.2.1 q h1 h2, fun q hq => by
      rcases List.mem_append.mp hq with h | h
      · exact hS.2.2 q h
      · exact hA _ (hL q h)⟩ hz hk T' e1 X'
  exact ⟨t2, st t2 a1, b1⟩
theorem wr_V (S : CallFix p m c cc nL s args Ts own) (hl : lv_has ls nL lvs) (hM : Wr l y ws rm (.ref b :: As) B o P A1) (hB0 : HB B) (hG : GoodIn Ts (wsV own index C y ws)) (hw : ws = Cond.code y bytes maxL ret :: ws') (hC : y.cls = C) (hd : nfOk y As.length) (hR : roomOk rm R maxL cells slots rest = true) (hst : st0 = As.reverse ++ .ref b :: rest) (hdg : decode cc pc = .ok (.invokevirtual index, 3))
    (hrc : ∃ cell : Cell, H[b]? = some cell ∧ cell.vm.isStatics = false ∧ s.vm.findClass C = some cell.cls) (hB : ∀ U : State, U.heap = H → s.WarmedH U.vm → B U) (hS : va_S A0 H0 H locs) (hA : ∀ q, A1 q → A0 q)
    (kk : ∀ (H1 : Heap) (locs1 : List Loc), P H1 → va_S A0 H0 H1 locs1 → H.size ≤ H1.size → (∀ q : Nat, q < H.size → ¬ A1 q → H1[q]? = H[q]?) → W p l e R s m args below meth c H1 locs1 cells slots Q (F0 m (pc + 3) ls (o.toList ++ rest))) : W p l e R s m args below meth c H locs cells slots Q (F0 m pc ls st0) := by
  obtain ⟨r1, r2, r3, r4, r5, r6, r7⟩ := roomOk.all hR
  exact wr_go (W.runV S hM (cwV As.length S.2.2.2.2 hG hw r6 r7 ⟨hC, hd⟩ ⟨r1, r2⟩) ⟨hB0.fb _, hrc, fun U h1 h2 => ⟨rfl, hB U h1 h2⟩⟩ rfl rfl hl.1 hst (lv_room r5) hdg ⟨r3, r4⟩) hS hA kk
theorem wr_S (S : CallFix p m c cc nL s args Ts own) (hl : lv_has ls nL lvs) (hM : Wr l y ws rm As B o P A1) (hB0 : HB B) (hG : GoodIn Ts (va_wsS own index y ws)) (hw : ws = Cond.code y bytes maxL ret :: ws') (hd : nfOk y As.length) (hR : roomOk rm R maxL cells slots rest = true) (hst : st0 = As.reverse ++ rest) (hdg : decode cc pc = .ok (.invokestatic index, 3))
    (hB : ∀ U : State, U.heap = H → s.WarmedH U.vm → B U) (hS : va_S A0 H0 H locs) (hA : ∀ q, A1 q → A0 q)
    (kk : ∀ (H1 : Heap) (locs1 : List Loc), P H1 → va_S A0 H0 H1 locs1 → H.size ≤ H1.size → (∀ q : Nat, q < H.size → ¬ A1 q → H1[q]? = H[q]?) → W p l e R s m args below meth c H1 locs1 cells slots Q (F0 m (pc + 3) ls (o.toList ++ rest))) : W p l e R s m args below meth c H locs cells slots Q (F0 m pc ls st0) := by
  obtain ⟨r1, r2, r3, r4, r5, r6, r7⟩ := roomOk.all hR
  exact wr_go (W.runS S hM (va_cwS As.length S.2.2.2.2 hG hw r6 r7 hd ⟨r1, r2⟩) ⟨hB0.fb As, fun U h1 h2 => ⟨rfl, hB U h1 h2⟩⟩ rfl rfl hl.1 hst (lv_room r5) hdg ⟨r3, r4⟩) hS hA kk
theorem ret_i (hx : p.tables.exec = Jvm.exec) (hb : c.code = cc) (hr : meth.sig.returnType = some .int) (hlocks : meth.locks = false) {x : Int32} (hdg : decode cc pc = .ok (.ireturn, 1)) (h : x = v) : W p l e R s m args below meth c s.heap [] 0 0 (MQ below (vp_Si (fun r => r = v)) args s 0 0 (fun _ => False)) (F0 m pc ls [.int x]) :=
  W.iret hx hb hr (fun t ht _ => ⟨x, rfl, h, ht⟩) (fun q hq => by cases hq) hdg hlocks
theorem nar_z {b : Bool} : narrow .boolean (.int (bI b)) = .int (bI b) := by cases b <;> rfl
theorem ret_z (hx : p.tables.exec = Jvm.exec) (hb : c.code = cc) (hr : meth.sig.returnType = some .boolean) (hlocks : meth.locks = false) {x : Int32} {b : Bool} (hdg : decode cc pc = .ok (.ireturn, 1)) (h : x = bI b) : W p l e R s m args below meth c s.heap [] 0 0 (MQ below (vp_Si (fun r => r = bI b)) args s 0 0 (fun _ => False)) (F0 m pc ls [.int x]) := by
  subst h
  exact W.zret hx hb hr nar_z (fun t ht _ => ⟨_, rfl, rfl, ht⟩) (fun q hq => by cases hq) hdg hlocks
theorem ret_wi (hx : p.tables.exec = Jvm.exec) (hb : c.code = cc) (hr : meth.sig.returnType = some .int) (hlocks : meth.locks = false) {x : Int32} (hdg : decode cc pc = .ok (.ireturn, 1)) (hS : va_S A0 s.heap H locs) (hP : P H) (h : x = v) : W p l e R s m args below meth c H locs 0 0 (MQ below (qW (some (.int v)) P A0) args s 0 0 A0) (F0 m pc ls [.int x]) := by
  subst h
  exact W.iret hx hb hr (fun t ht _ => ⟨rfl, by rw [ht]; exact hP, hS.F ht⟩) hS.2.2 hdg hlocks
theorem ret_wv (hx : p.tables.exec = Jvm.exec) (hb : c.code = cc) (hr : meth.sig.returnType = none) (hlocks : meth.locks = false) (hdg : decode cc pc = .ok (.return_, 1)) (hS : va_S A0 s.heap H locs) (hP : P H) : W p l e R s m args below meth c H locs 0 0 (MQ below (qW none P A0) args s 0 0 A0) (F0 m pc ls []) :=
  W.vret hx hb hr (fun t ht _ => ⟨rfl, by rw [ht]; exact hP, hS.F ht⟩) hS.2.2 hdg hlocks
/-! rows over nI and truths -/
theorem nv_as {x : Int32} (z : Int32) (h : x = z) (k : W p l e R s m args below meth c H locs cells slots Q (F0 m pc ls (.int z :: rest))) : W p l e R s m args below meth c H locs cells slots Q (F0 m pc ls (.int x :: rest)) := by subst h; exact k
theorem nv_icmp_eq (hx : p.tables.exec = Jvm.exec) (hb : c.code = cc) {a d : Nat} {off : Int} {tgt : Nat} (hdg : decode cc pc = .ok (.if_icmp .eq off, 3)) (ht : (pc : Int) + off = (tgt : Int)) (ha : a < 2 ^ 31) (hd : d < 2 ^ 31)
    (kt : a = d → W p l e R s m args below meth c H locs cells slots Q (F0 m tgt ls rest)) (kf : a ≠ d → W p l e R s m args below meth c H locs cells slots Q (F0 m (pc + 3) ls rest)) : W p l e R s m args below meth c H locs cells slots Q (F0 m pc ls (.int (nI d) :: .int (nI a) :: rest)) :=
  lv_icmp_eq hx hb hdg ht (fun h => kt ((nI_eq ha hd).mp h)) (fun h => kf (fun q => h (by rw [q])))
theorem nv_icmp_ne (hx : p.tables.exec = Jvm.exec) (hb : c.code = cc) {a d : Nat} {off : Int} {tgt : Nat} (hdg : decode cc pc = .ok (.if_icmp .ne off, 3)) (ht : (pc : Int) + off = (tgt : Int)) (ha : a < 2 ^ 31) (hd : d < 2 ^ 31)
    (kt : a ≠ d → W p l e R s m args below meth c H locs cells slots Q (F0 m tgt ls rest)) (kf : a = d → W p l e R s m args below meth c H locs cells slots Q (F0 m (pc + 3) ls rest)) : W p l e R s m args below meth c H locs cells slots Q (F0 m pc ls (.int (nI d) :: .int (nI a) :: rest)) :=
  lv_icmp_ne hx hb hdg ht (fun h => kt (fun q => h (by rw [q]))) (fun h => kf ((nI_eq ha hd).mp h))
theorem nv_icmp_ge (hx : p.tables.exec = Jvm.exec) (hb : c.code = cc) {a d : Nat} {off : Int} {tgt : Nat} (hdg : decode cc pc = .ok (.if_icmp .ge off, 3)) (ht : (pc : Int) + off = (tgt : Int)) (ha : a < 2 ^ 31) (hd : d < 2 ^ 31)
    (kt : d ≤ a → W p l e R s m args below meth c H locs cells slots Q (F0 m tgt ls rest)) (kf : a < d → W p l e R s m args below meth c H locs cells slots Q (F0 m (pc + 3) ls rest)) : W p l e R s m args below meth c H locs cells slots Q (F0 m pc ls (.int (nI d) :: .int (nI a) :: rest)) :=
  lv_icmp_ge hx hb hdg ht (fun h => kt ((nI_leI hd ha).mp h)) (fun h => kf (Nat.not_le.mp (fun q => h ((nI_leI hd ha).mpr q))))
theorem nv_icmp_lt (hx : p.tables.exec = Jvm.exec) (hb : c.code = cc) {a d : Nat} {off : Int} {tgt : Nat} (hdg : decode cc pc = .ok (.if_icmp .lt off, 3)) (ht : (pc : Int) + off = (tgt : Int)) (ha : a < 2 ^ 31) (hd : d < 2 ^ 31)
    (kt : a < d → W p l e R s m args below meth c H locs cells slots Q (F0 m tgt ls rest)) (kf : d ≤ a → W p l e R s m args below meth c H locs cells slots Q (F0 m (pc + 3) ls rest)) : W p l e R s m args below meth c H locs cells slots Q (F0 m pc ls (.int (nI d) :: .int (nI a) :: rest)) :=
  lv_icmp_lt hx hb hdg ht (fun h => kt ((nI_ltI ha hd).mp h)) (fun h => kf (Nat.not_lt.mp (fun q => h ((nI_ltI ha hd).mpr q))))
theorem nv_icmp_gt (hx : p.tables.exec = Jvm.exec) (hb : c.code = cc) {a d : Nat} {off : Int} {tgt : Nat} (hdg : decode cc pc = .ok (.if_icmp .gt off, 3)) (ht : (pc : Int) + off = (tgt : Int)) (ha : a < 2 ^ 31) (hd : d < 2 ^ 31)
    (kt : d < a → W p l e R s m args below meth c H locs cells slots Q (F0 m tgt ls rest)) (kf : a ≤ d → W p l e R s m args below meth c H locs cells slots Q (F0 m (pc + 3) ls rest)) : W p l e R s m args below meth c H locs cells slots Q (F0 m pc ls (.int (nI d) :: .int (nI a) :: rest)) :=
  lv_icmp_gt hx hb hdg ht (fun h => kt ((nI_ltI hd ha).mp h)) (fun h => kf (Nat.not_lt.mp (fun q => h ((nI_ltI hd ha).mpr q))))
theorem nv_icmp_le (hx : p.tables.exec = Jvm.exec) (hb : c.code = cc) {a d : Nat} {off : Int} {tgt : Nat} (hdg : decode cc pc = .ok (.if_icmp .le off, 3)) (ht : (pc : Int) + off = (tgt : Int)) (ha : a < 2 ^ 31) (hd : d < 2 ^ 31)
    (kt : a ≤ d → W p l e R s m args below meth c H locs cells slots Q (F0 m tgt ls rest)) (kf : d < a → W p l e R s m args below meth c H locs cells slots Q (F0 m (pc + 3) ls rest)) : W p l e R s m args below meth c H locs cells slots Q (F0 m pc ls (.int (nI d) :: .int (nI a) :: rest)) :=
  lv_icmp_le hx hb hdg ht (fun h => kt ((nI_leI ha hd).mp h)) (fun h => kf (Nat.not_le.mp (fun q => h ((nI_leI ha hd).mpr q))))
theorem bI_t : bI true = 1 := rfl
theorem bI_f : bI false = 0 := rfl
theorem bI_0 {b : Bool} : bI b = 0 ↔ b = false := by cases b <;> simp [bI]
theorem bI_1 {b : Bool} : bI b = 1 ↔ b = true := by cases b <;> simp [bI]
theorem bI_inj {a b : Bool} : bI a = bI b ↔ a = b := by cases a <;> cases b <;> simp [bI]
theorem nv_ifz_eq (hx : p.tables.exec = Jvm.exec) (hb : c.code = cc) {b : Bool} {off : Int} {tgt : Nat} (hdg : decode cc pc = .ok (.ifCond .eq off, 3)) (ht : (pc : Int) + off = (tgt : Int))
    (kt : b = false → W p l e R s m args below meth c H locs cells slots Q (F0 m tgt ls rest)) (kf : b = true → W p l e R s m args below meth c H locs cells slots Q (F0 m (pc + 3) ls rest)) : W p l e R s m args below meth c H locs cells slots Q (F0 m pc ls (.int (bI b) :: rest)) :=
  lv_if_eq hx hb hdg ht (fun h => kt (bI_0.mp h)) (fun h => kf (by cases b with | true => rfl | false => exact absurd rfl h))
theorem nv_ifz_ne (hx : p.tables.exec = Jvm.exec) (hb : c.code = cc) {b : Bool} {off : Int} {tgt : Nat} (hdg : decode cc pc = .ok (.ifCond .ne off, 3)) (ht : (pc : Int) + off = (tgt : Int))
    (kt : b = true → W p l e R s m args below meth c H locs cells slots Q (F0 m tgt ls rest)) (kf : b = false → W p l e R s m args below meth c H locs cells slots Q (F0 m (pc + 3) ls rest)) : W p l e R s m args below meth c H locs cells slots Q (F0 m pc ls (.int (bI b) :: rest)) :=
  lv_if_ne hx hb hdg ht (fun h => kt (by cases b with | true => rfl | false => exact absurd rfl h)) (fun h => kf (bI_0.mp h))
end BASE
end
section
/-! the pure side: the sheet, sets, packing, floods; both programs are tied to these -/
def iI (z : Int) : Int32 := Int32.ofInt z
theorem iI_nI (n : Nat) : nI n = iI n := rfl
def sA (d : Nat) : Int := match d with
  | 1 => 1
  | 3 => -1
  | 4 => -1
  | 6 => 1
  | _ => 0
def sB (d : Nat) : Int := match d with
  | 2 => 1
  | 3 => 1
  | 5 => -1
  | 6 => -1
  | _ => 0
def stp (q : Int × Int) (d : Nat) : Int × Int := (2 * q.1 - q.2 + sA d, q.1 + 3 * q.2 + sB d)
def pt (k : Nat) : Int × Int := stp (stp (stp (stp (0, 0) (k / 343 % 7)) (k / 49 % 7)) (k / 7 % 7)) (k / 1 % 7)
def ptA (k : Nat) : Int := (pt k).1
def ptB (k : Nat) : Int := (pt k).2
def pt_ok (k : Nat) : Bool := decide (-31 ≤ (pt k).1) && decide ((pt k).1 ≤ 31) && decide (-31 ≤ (pt k).2) && decide ((pt k).2 ≤ 31)
theorem pt_all : (List.range 2401).all pt_ok = true := by decide +kernel
theorem pt_bd {k : Nat} (h : k < 2401) : -31 ≤ ptA k ∧ ptA k ≤ 31 ∧ -31 ≤ ptB k ∧ ptB k ≤ 31 := by
  have h1 := List.all_eq_true.mp pt_all k (List.mem_range.mpr h)
  simp only [pt_ok, Bool.and_eq_true, decide_eq_true_eq] at h1
  exact ⟨h1.1.1.1, h1.1.1.2, h1.1.2, h1.2⟩
def cellZ (a b : Int) : Int := (a + 32) * 65 + b + 32
def cellN (k : Nat) : Nat := (cellZ (ptA k) (ptB k)).toNat
def gN (k : Nat) : Nat := (121 * (ptA k + 60) + ptB k + 60).toNat
/-- the last of the first n that has p -/
def lst (p : Nat → Bool) : Nat → Option Nat
  | 0 => none
  | n + 1 => if p n then some n else lst p n
theorem lst_cong {p q : Nat → Bool} : ∀ {n : Nat}, (∀ k, k < n → p k = q k) → lst p n = lst q n
  | 0, _ => rfl
  | n + 1, h => by rw [lst, lst, h n (Nat.lt_succ_self n), lst_cong (fun k hk => h k (Nat.lt_succ_of_lt hk))]
theorem lst_some {p : Nat → Bool} {k : Nat} : ∀ {n : Nat}, lst p n = some k → k < n ∧ p k = true ∧ ∀ j, k < j → j < n → p j = false
  | 0, h => by cases h
  | n + 1, h => by
    rw [lst] at h
    by_cases hp : p n = true
    · rw [if_pos hp] at h
      cases h
      exact ⟨Nat.lt_succ_self _, hp, fun j h1 h2 => by omega⟩
    · rw [if_neg hp] at h
      obtain ⟨h1, h2, h3⟩ := lst_some h
      refine ⟨Nat.lt_succ_of_lt h1, h2, fun j h4 h5 => ?_⟩
      rcases Nat.lt_or_ge j n with q | q
      · exact h3 j h4 q
      · have e : j = n := by omega
        rw [e]
        exact Bool.not_eq_true _ ▸ hp
theorem lst_none {p : Nat → Bool} : ∀ {n : Nat}, lst p n = none → ∀ j, j < n → p j = false
  | 0, _, j, hj => by omega
  | n + 1, h, j, hj => by
    rw [lst] at h
    by_cases hp : p n = true
    · rw [if_pos hp] at h
      cases h
    · rw [if_neg hp] at h
      rcases Nat.lt_or_ge j n with q | q
      · exact lst_none h j q
      · have e : j = n := by omega
        rw [e]
        exact Bool.not_eq_true _ ▸ hp
def atP (a b : Int) (k : Nat) : Bool := decide (ptA k = a) && decide (ptB k = b)
def kAt (a b : Int) : Option Nat := lst (atP a b) 2401
def nbo (k d : Nat) : Option Nat := kAt (ptA k + sA d) (ptB k + sB d)
theorem kAt_some {a b : Int} {k : Nat} (h : kAt a b = some k) : k < 2401 ∧ ptA k = a ∧ ptB k = b := by
  obtain ⟨h1, h2, -⟩ := lst_some h
  simp only [atP, Bool.and_eq_true, decide_eq_true_eq] at h2
  exact ⟨h1, h2⟩
theorem nbo_lt {k d j : Nat} (h : nbo k d = some j) : j < 2401 := (kAt_some h).1
def cellF (k : Nat) : Int32 := nI (cellN k)
def keyFn (n c : Nat) : Int32 := oI (lst (fun k => decide (cellN k = c)) n)
def keyF (c : Nat) : Int32 := keyFn 2401 c
def oG (o : Option Nat) : Int32 := match o with
  | none => 0
  | some k => nI (k + 1)
def keyGn (n c : Nat) : Int32 := oG (lst (fun k => decide (gN k = c)) n)
def keyG (c : Nat) : Int32 := keyGn 2401 c
theorem cellN_lt {k : Nat} (h : k < 2401) : cellN k < 4225 ∧ (cellN k : Int) = cellZ (ptA k) (ptB k) := by
  have := pt_bd h
  unfold cellN cellZ
  omega
theorem gN_lt {k : Nat} (h : k < 2401) : gN k < 14641 ∧ (gN k : Int) = 121 * (ptA k + 60) + ptB k + 60 := by
  have := pt_bd h
  unfold gN
  omega
theorem keyFn_0 : keyFn 0 = fun _ => -6 := rfl
theorem keyFn_s (n : Nat) : keyFn (n + 1) = upd (keyFn n) (cellN n) (nI n) := by
  funext c
  unfold keyFn upd
  rw [lst]
  by_cases h : c = cellN n
  · rw [if_pos h, if_pos (by simp [h])]; rfl
  · rw [if_neg h, if_neg (by simp [Ne.symm h])]
theorem keyGn_0 : keyGn 0 = fun _ => 0 := rfl
theorem keyGn_s (n : Nat) : keyGn (n + 1) = upd (keyGn n) (gN n) (nI (n + 1)) := by
  funext c
  unfold keyGn upd
  rw [lst]
  by_cases h : c = gN n
  · rw [if_pos h, if_pos (by simp [h])]; rfl
  · rw [if_neg h, if_neg (by simp [Ne.symm h])]
theorem keyF_at {a b : Int} {c : Nat} (hc : (c : Int) = cellZ a b) (ha : -32 ≤ a ∧ a ≤ 32) (hb : -32 ≤ b ∧ b ≤ 32) : keyF c = oI (kAt a b) := by
  unfold keyF keyFn kAt
  congr 1
  refine lst_cong fun k hk => ?_
  have h1 := pt_bd hk
  have h2 := (cellN_lt hk).2
  unfold cellZ at hc h2
  unfold atP
  by_cases e : cellN k = c
  · have e1 : ptA k = a := by omega
    have e2 : ptB k = b := by omega
    simp [e, e1, e2]
  · have e1 : ¬ (ptA k = a ∧ ptB k = b) := fun q => e (by omega)
    rw [decide_eq_false e]
    symm
    rw [Bool.and_eq_false_iff]
    by_cases e2 : ptA k = a
    · exact Or.inr (decide_eq_false fun e3 => e1 ⟨e2, e3⟩)
    · exact Or.inl (decide_eq_false e2)
theorem keyG_at {a b : Int} {c : Nat} (hc : (c : Int) = 121 * (a + 60) + b + 60) (ha : -60 ≤ a ∧ a ≤ 60) (hb : -60 ≤ b ∧ b ≤ 60) : keyG c = oG (kAt a b) := by
  unfold keyG keyGn kAt
  congr 1
  refine lst_cong fun k hk => ?_
  have h1 := pt_bd hk
  have h2 := (gN_lt hk).2
  unfold atP
  by_cases e : gN k = c
  · have e1 : ptA k = a := by omega
    have e2 : ptB k = b := by omega
    simp [e, e1, e2]
  · have e1 : ¬ (ptA k = a ∧ ptB k = b) := fun q => e (by omega)
    rw [decide_eq_false e]
    symm
    rw [Bool.and_eq_false_iff]
    by_cases e2 : ptA k = a
    · exact Or.inr (decide_eq_false fun e3 => e1 ⟨e2, e3⟩)
    · exact Or.inl (decide_eq_false e2)
theorem kAt_out {a b : Int} (h : ¬ (-31 ≤ a ∧ a ≤ 31 ∧ -31 ≤ b ∧ b ≤ 31)) : kAt a b = none := by
  cases e : kAt a b with
  | none => rfl
  | some k =>
    obtain ⟨h1, h2, h3⟩ := kAt_some e
    have h4 := pt_bd h1
    exact absurd (by omega) h
/-- the way back: the key of a point -/
def dig (a b : Int) : Nat := match (a - 2 * b) % 7 with
  | 1 => 1
  | 5 => 2
  | 4 => 3
  | 6 => 4
  | 2 => 5
  | 3 => 6
  | _ => 0
def bck (q : Int × Int) (d : Nat) : Int × Int := ((3 * (q.1 - sA d) + (q.2 - sB d)) / 7, (2 * (q.2 - sB d) - (q.1 - sA d)) / 7)
def inv7 (q : Int × Int) : Nat :=
  let d4 := dig q.1 q.2
  let q3 := bck q d4
  let d3 := dig q3.1 q3.2
  let q2 := bck q3 d3
  let d2 := dig q2.1 q2.2
  let q1 := bck q2 d2
  let d1 := dig q1.1 q1.2
  343 * d1 + 49 * d2 + 7 * d3 + d4
theorem inv_all : (List.range 2401).all (fun k => Nat.beq (inv7 (pt k)) k) = true := by decide +kernel
theorem pt_inj {j k : Nat} (hj : j < 2401) (hk : k < 2401) (ha : ptA j = ptA k) (hb : ptB j = ptB k) : j = k := by
  have h1 := Nat.eq_of_beq_eq_true (List.all_eq_true.mp inv_all j (List.mem_range.mpr hj))
  have h2 := Nat.eq_of_beq_eq_true (List.all_eq_true.mp inv_all k (List.mem_range.mpr hk))
  have e : pt j = pt k := Prod.ext ha hb
  rw [← h1, ← h2, e]
theorem kAt_self {k : Nat} (hk : k < 2401) : kAt (ptA k) (ptB k) = some k := by
  cases e : kAt (ptA k) (ptB k) with
  | none =>
    have h := lst_none e k hk
    simp [atP] at h
  | some j =>
    obtain ⟨h1, h2, h3⟩ := kAt_some e
    rw [pt_inj h1 hk h2 h3]
theorem nbo_0 {k : Nat} (hk : k < 2401) : nbo k 0 = some k := by
  have h := kAt_self hk
  unfold nbo
  simpa [sA, sB] using h
theorem nbo_one {k j d e : Nat} (hd : d < 7) (he : e < 7) (h1 : nbo k d = some j) (h2 : nbo k e = some j) : d = e := by
  obtain ⟨-, a1, b1⟩ := kAt_some h1
  obtain ⟨-, a2, b2⟩ := kAt_some h2
  have ea : sA d = sA e := by omega
  have eb : sB d = sB e := by omega
  have key : ∀ d : Fin 7, ∀ e : Fin 7, sA d = sA e → sB d = sB e → d = e := by decide
  have := key ⟨d, hd⟩ ⟨e, he⟩ ea eb
  exact congrArg Fin.val this
end
section
/-! plain facts on numbers and arrays, to paste: each family by itself; over the kit's rows on nI and upd -/
/-! ===== order of ints, in all its forms, and through longs ===== -/
theorem fa_lt (a b : Int32) : a < b ↔ a.toInt < b.toInt := Int32.lt_iff_toInt_lt
theorem fa_le (a b : Int32) : a ≤ b ↔ a.toInt ≤ b.toInt := Int32.le_iff_toInt_le
theorem fa_eq (a b : Int32) : a = b ↔ a.toInt = b.toInt := Int32.toInt_inj.symm
theorem fa_lt64 (a b : Int64) : a < b ↔ a.toInt < b.toInt := Int64.lt_iff_toInt_lt
theorem fa_le64 (a b : Int64) : a ≤ b ↔ a.toInt ≤ b.toInt := Int64.le_iff_toInt_le
theorem fa_eq64 (a b : Int64) : a = b ↔ a.toInt = b.toInt := Int64.toInt_inj.symm
/-- a comparison of two ints taken as longs -/
theorem fa_wide_lt (a b : Int32) : a.toInt64 < b.toInt64 ↔ a < b := by rw [fa_lt64, fa_lt, Int32.toInt_toInt64, Int32.toInt_toInt64]
theorem fa_wide_le (a b : Int32) : a.toInt64 ≤ b.toInt64 ↔ a ≤ b := by rw [fa_le64, fa_le, Int32.toInt_toInt64, Int32.toInt_toInt64]
theorem fa_wide_eq (a b : Int32) : a.toInt64 = b.toInt64 ↔ a = b := by rw [fa_eq64, fa_eq, Int32.toInt_toInt64, Int32.toInt_toInt64]
/-- one strict comparison gives all the others -/
theorem fa_of_lt {a b : Int32} (h : a < b) : a ≤ b ∧ ¬ b ≤ a ∧ ¬ b < a ∧ a ≠ b ∧ b ≠ a := by
  rw [fa_lt] at h
  refine ⟨?_, ?_, ?_, ?_, ?_⟩
  · rw [fa_le]; omega
  · rw [fa_le]; omega
  · rw [fa_lt]; omega
  · intro e; rw [fa_eq] at e; omega
  · intro e; rw [fa_eq] at e; omega
theorem fa_of_nlt {a b : Int32} (h : ¬ a < b) : b ≤ a := by
  rw [fa_lt] at h
  rw [fa_le]
  omega
theorem fa_of_nle {a b : Int32} (h : ¬ a ≤ b) : b < a := by
  rw [fa_le] at h
  rw [fa_lt]
  omega
theorem fa_le_ne {a b : Int32} (h : a ≤ b) (h2 : a ≠ b) : a < b := by
  rw [fa_le] at h
  rw [fa_lt]
  have h3 : a.toInt ≠ b.toInt := fun e => h2 ((fa_eq a b).mpr e)
  omega
theorem fa_three (a b : Int32) : a < b ∨ a = b ∨ b < a := by
  rw [fa_lt, fa_lt, fa_eq]
  omega
theorem fa_trans {a b c : Int32} (h : a < b) (h2 : b ≤ c) : a < c := by
  rw [fa_lt] at *
  rw [fa_le] at h2
  omega
/-! ===== small literals as numbers ===== -/
theorem fa_lit (n : Nat) : (OfNat.ofNat n : Int32) = nI n := rfl
theorem fa_litL (n : Nat) : (OfNat.ofNat n : Int64) = lN n := rfl
/-! ===== bits of a number: 'or', masks, one bit ===== -/
theorem fa_and (a b : Nat) : nI a &&& nI b = nI (a &&& b) := by
  apply Int32.toBitVec_inj.1
  show BitVec.ofNat 32 a &&& BitVec.ofNat 32 b = BitVec.ofNat 32 (a &&& b)
  apply BitVec.eq_of_getLsbD_eq
  intro i hi
  simp [hi]
theorem fa_or (a b : Nat) : nI a ||| nI b = nI (a ||| b) := by
  apply Int32.toBitVec_inj.1
  show BitVec.ofNat 32 a ||| BitVec.ofNat 32 b = BitVec.ofNat 32 (a ||| b)
  apply BitVec.eq_of_getLsbD_eq
  intro i hi
  simp [hi]
/-- a remainder by a power of two, as a mask -/
theorem fa_mask (n k : Nat) : nI n &&& nI (2 ^ k - 1) = nI (n % 2 ^ k) := by rw [fa_and, Nat.and_two_pow_sub_one_eq_mod]
/-- 'or' of a high part and a low one that don't meet is their sum -/
theorem fa_or_sum {a k : Nat} (b : Nat) (h : a < 2 ^ k) : nI (2 ^ k * b) ||| nI a = nI (2 ^ k * b + a) := by rw [fa_or, Nat.two_pow_add_eq_or_of_lt h]
/-- one bit, by 'and' with a power of two -/
theorem fa_bit {n j : Nat} (hj : j < 31) : nI n &&& nI (2 ^ j) = 0 ↔ n.testBit j = false := by
  have h2 : (2 : Nat) ^ j < 2 ^ 31 := Nat.pow_lt_pow_right (by decide) hj
  have hle : n &&& 2 ^ j ≤ 2 ^ j := Nat.and_le_right
  have e : n &&& 2 ^ j = 0 ↔ n.testBit j = false := by
    constructor
    · intro h
      have h1 : (n &&& 2 ^ j).testBit j = false := by rw [h]; simp
      rw [Nat.testBit_and] at h1
      first | simpa using h1 | simpa [Nat.testBit_two_pow_self] using h1 | simpa [Nat.testBit_two_pow] using h1
    · intro h
      apply Nat.eq_of_testBit_eq
      intro i
      rw [Nat.testBit_and]
      by_cases hi : j = i
      · subst hi; simp [h]
      · first | (simp [Nat.testBit_two_pow, hi]; done) | (simp [Nat.testBit_two_pow_of_ne hi]; done)
  rw [fa_and]
  constructor
  · intro h
    apply e.mp
    rcases Nat.eq_zero_or_pos (n &&& 2 ^ j) with z | z
    · exact z
    · exact absurd h (nI_ne0 z (Nat.lt_of_le_of_lt hle h2))
  · intro h
    rw [e.mpr h]; exact nI_0
/-- a remainder by a power of two of a number that isn't negative, as Java divides -/
theorem fa_rem {a k : Nat} (ha : a < 2 ^ 31) (hk : k < 31) : nI a - nI a / nI (2 ^ k) * nI (2 ^ k) = nI (a % 2 ^ k) := pk_rem ha (Nat.two_pow_pos k) (Nat.pow_lt_pow_right (by decide) hk)
/-! ===== cuts to a byte, a short ===== -/
theorem fa_byte_xor (x y : Int32) : (x ^^^ y).toInt8 = x.toInt8 ^^^ y.toInt8 := by
  apply Int8.toBitVec_inj.1
  apply BitVec.eq_of_getLsbD_eq
  intro i hi
  first | (simp [hi]; done) | (simp [hi, BitVec.getLsbD_setWidth, BitVec.getLsbD_signExtend]; done)
theorem fa_short_xor (x y : Int32) : (x ^^^ y).toInt16 = x.toInt16 ^^^ y.toInt16 := by
  apply Int16.toBitVec_inj.1
  apply BitVec.eq_of_getLsbD_eq
  intro i hi
  first | (simp [hi]; done) | (simp [hi, BitVec.getLsbD_setWidth, BitVec.getLsbD_signExtend]; done)
/-- the cut to a byte sees the low byte alone -/
theorem fa_byte_low (x : Int32) : (x &&& 255).toInt8 = x.toInt8 := by
  apply Int8.toBitVec_inj.1
  apply BitVec.eq_of_getLsbD_eq
  intro i hi
  have h2 : (255 : Int32).toBitVec.getLsbD i = true := by
    have : ∀ j : Fin 8, (255 : Int32).toBitVec.getLsbD j.val = true := by decide +kernel
    exact this ⟨i, hi⟩
  have h4 : (x &&& 255).toBitVec.getLsbD i = x.toBitVec.getLsbD i := by
    show (x.toBitVec &&& (255 : Int32).toBitVec).getLsbD i = _
    rw [BitVec.getLsbD_and, h2, Bool.and_true]
  have h3 : i < 32 := by omega
  first
    | (show (((x &&& 255).toBitVec).signExtend 8).getLsbD i = (x.toBitVec.signExtend 8).getLsbD i; rw [BitVec.getLsbD_signExtend, BitVec.getLsbD_signExtend, if_pos h3, if_pos h3, h4])
    | (show (((x &&& 255).toBitVec).setWidth 8).getLsbD i = (x.toBitVec.setWidth 8).getLsbD i; rw [BitVec.getLsbD_setWidth, BitVec.getLsbD_setWidth, h4])
    | (simp [hi, h3, h4]; done)
theorem fa_short_low (x : Int32) : (x &&& 65535).toInt16 = x.toInt16 := by
  apply Int16.toBitVec_inj.1
  apply BitVec.eq_of_getLsbD_eq
  intro i hi
  have h2 : (65535 : Int32).toBitVec.getLsbD i = true := by
    have : ∀ j : Fin 16, (65535 : Int32).toBitVec.getLsbD j.val = true := by decide +kernel
    exact this ⟨i, hi⟩
  have h4 : (x &&& 65535).toBitVec.getLsbD i = x.toBitVec.getLsbD i := by
    show (x.toBitVec &&& (65535 : Int32).toBitVec).getLsbD i = _
    rw [BitVec.getLsbD_and, h2, Bool.and_true]
  have h3 : i < 32 := by omega
  first
    | (show (((x &&& 65535).toBitVec).signExtend 16).getLsbD i = (x.toBitVec.signExtend 16).getLsbD i; rw [BitVec.getLsbD_signExtend, BitVec.getLsbD_signExtend, if_pos h3, if_pos h3, h4])
    | (show (((x &&& 65535).toBitVec).setWidth 16).getLsbD i = (x.toBitVec.setWidth 16).getLsbD i; rw [BitVec.getLsbD_setWidth, BitVec.getLsbD_setWidth, h4])
    | (simp [hi, h3, h4]; done)
/-- a small number is its own byte, its own short -/
theorem fa_byte_small {n : Nat} (h : n < 128) : (nI n).toInt8.toInt32 = nI n := by
  have : ∀ j : Fin 128, (nI j.val).toInt8.toInt32 = nI j.val := by decide +kernel
  exact this ⟨n, h⟩
/-! ===== absolute difference ===== -/
theorem fa_absdiff {a b : Nat} (ha : a < 2 ^ 31) (hb : b < 2 ^ 31) : (if nI a < nI b then nI b - nI a else nI a - nI b) = nI (if a < b then b - a else a - b) := by
  by_cases h : a < b
  · rw [if_pos (nI_lt h hb), if_pos h]
    exact pk_sub (Nat.le_of_lt h)
  · rw [if_neg (nI_nlt (Nat.le_of_not_lt h) ha), if_neg h]
    exact pk_sub (Nat.le_of_not_lt h)
/-! ===== an array behind i stores, a conditional store, a row copied ===== -/
/-- f where k < i, what stood there else -/
def fa_fill {α : Type} (f g : Nat → α) (i : Nat) : Nat → α := fun k => if k < i then f k else g k
theorem fa_fill_0 {α : Type} (f g : Nat → α) : fa_fill f g 0 = g := funext fun k => if_neg (Nat.not_lt_zero k)
theorem fa_fill_in {α : Type} {f g : Nat → α} {i k : Nat} (h : k < i) : fa_fill f g i k = f k := if_pos h
theorem fa_fill_out {α : Type} {f g : Nat → α} {i k : Nat} (h : i ≤ k) : fa_fill f g i k = g k := if_neg (Nat.not_lt.mpr h)
theorem fa_fill_succ (f g : Nat → Int32) (i : Nat) : upd (fa_fill f g i) i (f i) = fa_fill f g (i + 1) := by
  funext k
  by_cases e : k = i
  · subst e
    rw [pk_us]
    exact (if_pos (Nat.lt_succ_self k)).symm
  · rw [pk_un e]
    by_cases h : k < i
    · rw [fa_fill_in h, fa_fill_in (Nat.lt_succ_of_lt h)]
    · rw [fa_fill_out (Nat.le_of_not_lt h), fa_fill_out (by omega)]
/-- a store that changes nothing -/
theorem fa_upd_same {f : Nat → Int32} {i : Nat} {x : Int32} (h : f i = x) : upd f i x = f := by
  funext k
  by_cases e : k = i
  · subst e
    rw [pk_us, h]
  · rw [pk_un e]
/-- a store under a condition, told as one -/
theorem fa_upd_if (c : Prop) [Decidable c] (f : Nat → Int32) (i : Nat) (x : Int32) : (if c then upd f i x else f) = upd f i (if c then x else f i) := by
  by_cases h : c
  · rw [if_pos h, if_pos h]
  · rw [if_neg h, if_neg h, fa_upd_same rfl]
/-- two stores at one place, at two -/
theorem fa_upd_twice (f : Nat → Int32) (i : Nat) (x y : Int32) : upd (upd f i x) i y = upd f i y := by
  funext k
  by_cases e : k = i
  · subst e
    rw [pk_us, pk_us]
  · rw [pk_un e, pk_un e, pk_un e]
theorem fa_upd_swap (f : Nat → Int32) {i j : Nat} (h : i ≠ j) (x y : Int32) : upd (upd f i x) j y = upd (upd f j y) i x := by
  funext k
  by_cases e : k = i
  · subst e
    rw [pk_un h, pk_us, pk_us]
  · by_cases e2 : k = j
    · subst e2
      rw [pk_us, pk_un e, pk_us]
    · rw [pk_un e2, pk_un e, pk_un e, pk_un e2]
/-! ===== the first index with a property; a count ===== -/
/-- the first k < n with p k, n if there is none -/
def fa_first (p : Nat → Bool) : Nat → Nat
  | 0 => 0
  | n + 1 => if fa_first p n < n then fa_first p n else if p n then n else n + 1
theorem fa_first_le (p : Nat → Bool) : ∀ n, fa_first p n ≤ n
  | 0 => Nat.le_refl 0
  | n + 1 => by
    have ih := fa_first_le p n
    unfold fa_first
    split
    · omega
    · split
      · omega
      · omega
theorem fa_first_no (p : Nat → Bool) : ∀ n k, k < fa_first p n → p k = false
  | 0, k, h => absurd h (Nat.not_lt_zero k)
  | n + 1, k, h => by
    have ih := fa_first_no p n
    have hl := fa_first_le p n
    unfold fa_first at h
    split at h
    · exact ih k h
    · rename_i h1
      split at h
      · exact ih k (by omega)
      · rename_i h2
        by_cases e : k = n
        · subst e
          exact Bool.eq_false_iff.mpr h2
        · exact ih k (by omega)
theorem fa_first_yes (p : Nat → Bool) : ∀ n, fa_first p n < n → p (fa_first p n) = true
  | 0, h => absurd h (Nat.not_lt_zero _)
  | n + 1, h => by
    have ih := fa_first_yes p n
    have hl := fa_first_le p n
    unfold fa_first at h ⊢
    split at h
    · rename_i h1
      rw [if_pos h1]
      exact ih h1
    · rename_i h1
      rw [if_neg h1]
      split at h
      · rename_i h2
        rw [if_pos h2]
        exact h2
      · omega
/-- how many k < n have p k -/
def fa_cnt (p : Nat → Bool) : Nat → Nat
  | 0 => 0
  | n + 1 => fa_cnt p n + if p n then 1 else 0
theorem fa_cnt_le (p : Nat → Bool) : ∀ n, fa_cnt p n ≤ n
  | 0 => Nat.le_refl 0
  | n + 1 => by
    have ih := fa_cnt_le p n
    unfold fa_cnt
    split
    · omega
    · omega
theorem fa_cnt_yes {p : Nat → Bool} {n : Nat} (h : p n = true) : fa_cnt p (n + 1) = fa_cnt p n + 1 := by rw [fa_cnt, if_pos h]
theorem fa_cnt_no {p : Nat → Bool} {n : Nat} (h : p n = false) : fa_cnt p (n + 1) = fa_cnt p n := by rw [fa_cnt, if_neg (by rw [h]; decide)]; rfl
theorem fa_cnt_cong {p q : Nat → Bool} : ∀ {n : Nat}, (∀ k, k < n → p k = q k) → fa_cnt p n = fa_cnt q n
  | 0, _ => rfl
  | n + 1, h => by rw [fa_cnt, fa_cnt, fa_cnt_cong (fun k hk => h k (Nat.lt_succ_of_lt hk)), h n (Nat.lt_succ_self n)]
/-! ===== an answer carried into a post; a branch on a boolean answer ===== -/
theorem fa_post {α : Type} {P : α → Prop} {x y : α} (h : x = y) (hp : P y) : P x := h ▸ hp
theorem fa_post2 {α β : Type} {P : α → β → Prop} {x y : α} {u v : β} (h : x = y) (h2 : u = v) (hp : P y v) : P x u := h ▸ h2 ▸ hp
theorem fa_bool {r : Int32} {b : Bool} (h : r = if b then 1 else 0) : (r = 0 ↔ b = false) ∧ (¬ r = 0 ↔ b = true) := by
  subst h
  cases b
  · exact ⟨⟨fun _ => rfl, fun _ => rfl⟩, ⟨fun h => absurd rfl h, fun h => absurd h (by decide)⟩⟩
  · exact ⟨⟨fun h => absurd h (by decide), fun h => absurd h (by decide)⟩, ⟨fun _ => rfl, fun _ => by decide⟩⟩
/-- a boolean's narrowing changes nothing -/
theorem fa_bool_and {r : Int32} (h : r = 0 ∨ r = 1) : r &&& 1 = r := by
  rcases h with rfl | rfl
  · decide
  · decide
theorem fa_bool_prop {c : Prop} [Decidable c] {r : Int32} (h : r = if c then 1 else 0) : (r = 0 ↔ ¬ c) ∧ (¬ r = 0 ↔ c) := by
  subst h
  by_cases hc : c
  · rw [if_pos hc]
    exact ⟨⟨fun h => absurd h (by decide), fun h => absurd hc h⟩, ⟨fun _ => hc, fun _ => by decide⟩⟩
  · rw [if_neg hc]
    exact ⟨⟨fun _ => hc, fun _ => rfl⟩, ⟨fun h => absurd rfl h, fun h => absurd h hc⟩⟩
/-! plain facts to paste, each family by itself; over the kit's nI, lN and upd -/
/-! ===== drawers: more things than places ===== -/
theorem fb_holes : ∀ (m n : Nat) (f : Nat → Nat), (∀ i, i < n → f i < m) → (∀ i j, i < j → j < n → f i ≠ f j) → n ≤ m := by
  intro m
  induction m with
  | zero =>
    intro n f h1 _
    rcases Nat.eq_zero_or_pos n with h | h
    · omega
    · exact absurd (h1 0 h) (Nat.not_lt_zero _)
  | succ m ih =>
    intro n f h1 h2
    by_cases hx : ∃ i, i < n ∧ f i = m
    · obtain ⟨a, ha, hfa⟩ := hx
      have hg := ih (n - 1) (fun i => if i < a then f i else f (i + 1)) (by
        intro i hi
        by_cases q : i < a
        · simp only [if_pos q]
          have b1 := h1 i (by omega)
          have b2 := h2 i a q ha
          omega
        · simp only [if_neg q]
          have b1 := h1 (i + 1) (by omega)
          have b2 := h2 a (i + 1) (by omega) (by omega)
          omega) (by
        intro i j hij hj
        by_cases q : i < a
        · by_cases r : j < a
          · simp only [if_pos q, if_pos r]
            exact h2 i j hij (by omega)
          · simp only [if_pos q, if_neg r]
            exact h2 i (j + 1) (by omega) (by omega)
        · have r : ¬ j < a := by omega
          simp only [if_neg q, if_neg r]
          exact h2 (i + 1) (j + 1) (by omega) (by omega))
      omega
    · have hg := ih n f (fun i hi => by
        have b1 := h1 i hi
        have b2 : f i ≠ m := fun e => hx ⟨i, hi, e⟩
        omega) h2
      omega
/-- two of them in one place -/
theorem fb_twice {m n : Nat} {f : Nat → Nat} (h : ∀ i, i < n → f i < m) (hm : m < n) : ∃ i j, i < j ∧ j < n ∧ f i = f j := by
  refine Classical.byContradiction fun hx => ?_
  have := fb_holes m n f h (fun i j hij hj e => hx ⟨i, j, hij, hj, e⟩)
  omega
/-- as many as places, none twice: each place is taken -/
theorem fb_onto {n : Nat} {f : Nat → Nat} (h : ∀ i, i < n → f i < n) (h2 : ∀ i j, i < j → j < n → f i ≠ f j) {y : Nat} (hy : y < n) : ∃ i, i < n ∧ f i = y := by
  refine Classical.byContradiction fun hx => ?_
  have hne : ∀ i, i < n → f i ≠ y := fun i hi e => hx ⟨i, hi, e⟩
  have := fb_holes (n - 1) n (fun i => if f i < y then f i else f i - 1) (by
    intro i hi
    have b1 := h i hi
    have b2 := hne i hi
    by_cases q : f i < y
    · simp only [if_pos q]; omega
    · simp only [if_neg q]; omega) (by
    intro i j hij hj
    have b1 := hne i (by omega)
    have b2 := hne j hj
    have b3 := h2 i j hij hj
    by_cases q : f i < y
    · by_cases r : f j < y
      · simp only [if_pos q, if_pos r]; exact b3
      · simp only [if_pos q, if_neg r]; omega
    · by_cases r : f j < y
      · simp only [if_neg q, if_pos r]; omega
      · simp only [if_neg q, if_neg r]; omega)
  omega
/-! ===== how many places have a property ===== -/
def fb_ct (p : Nat → Bool) : Nat → Nat
  | 0 => 0
  | n + 1 => fb_ct p n + (if p n then 1 else 0)
theorem fb_ct_succ (p : Nat → Bool) (n : Nat) : fb_ct p (n + 1) = fb_ct p n + (if p n then 1 else 0) := rfl
theorem fb_ct_le (p : Nat → Bool) : ∀ n, fb_ct p n ≤ n
  | 0 => Nat.le_refl _
  | n + 1 => by
    have h := fb_ct_le p n
    rw [fb_ct_succ]
    split <;> omega
theorem fb_ct_step (p : Nat → Bool) (m : Nat) : ∀ n, fb_ct p m ≤ fb_ct p (m + n)
  | 0 => Nat.le_refl _
  | n + 1 => by
    have h := fb_ct_step p m n
    show fb_ct p m ≤ fb_ct p (m + n + 1)
    rw [fb_ct_succ]
    omega
theorem fb_ct_mono (p : Nat → Bool) {m n : Nat} (h : m ≤ n) : fb_ct p m ≤ fb_ct p n := by
  have := fb_ct_step p m (n - m)
  rwa [Nat.add_sub_cancel' h] at this
theorem fb_ct_cong {p q : Nat → Bool} : ∀ {n : Nat}, (∀ k, k < n → p k = q k) → fb_ct p n = fb_ct q n
  | 0, _ => rfl
  | n + 1, h => by
    rw [fb_ct_succ, fb_ct_succ, fb_ct_cong (fun k hk => h k (by omega)), h n (by omega)]
/-- one place changed -/
theorem fb_ct_out (p : Nat → Bool) (b : Bool) {i n : Nat} (h : n ≤ i) : fb_ct (fun k => if k = i then b else p k) n = fb_ct p n :=
  fb_ct_cong fun k hk => if_neg (by omega)
theorem fb_ct_upd (p : Nat → Bool) (b : Bool) {i : Nat} : ∀ {n : Nat}, i < n → fb_ct (fun k => if k = i then b else p k) n + (if p i then 1 else 0) = fb_ct p n + (if b then 1 else 0)
  | 0, h => absurd h (Nat.not_lt_zero i)
  | n + 1, h => by
    rw [fb_ct_succ, fb_ct_succ]
    rcases Nat.lt_or_ge i n with q | q
    · have := fb_ct_upd p b q
      have e : (if n = i then b else p n) = p n := if_neg (by omega)
      rw [e]
      omega
    · have e : i = n := by omega
      subst e
      rw [fb_ct_out p b (Nat.le_refl _)]
      simp only [if_true]
      omega
theorem fb_ct_sub {p q : Nat → Bool} : ∀ {n : Nat}, (∀ k, k < n → p k = true → q k = true) → fb_ct p n ≤ fb_ct q n
  | 0, _ => Nat.le_refl _
  | n + 1, h => by
    have h1 := fb_ct_sub (n := n) (p := p) (q := q) (fun k hk => h k (by omega))
    have h2 := h n (by omega)
    rw [fb_ct_succ, fb_ct_succ]
    cases hp : p n <;> cases hq : q n <;> simp_all <;> omega
theorem fb_ct_or {p q : Nat → Bool} : ∀ {n : Nat}, (∀ k, k < n → ¬ (p k = true ∧ q k = true)) → fb_ct (fun k => p k || q k) n = fb_ct p n + fb_ct q n
  | 0, _ => rfl
  | n + 1, h => by
    have h1 := fb_ct_or (n := n) (p := p) (q := q) (fun k hk => h k (by omega))
    have h2 := h n (by omega)
    rw [fb_ct_succ, fb_ct_succ, fb_ct_succ, h1]
    cases hp : p n <;> cases hq : q n <;> simp_all <;> omega
theorem fb_ct_not (p : Nat → Bool) : ∀ n, fb_ct p n + fb_ct (fun k => !p k) n = n
  | 0 => rfl
  | n + 1 => by
    have h := fb_ct_not p n
    rw [fb_ct_succ, fb_ct_succ]
    cases p n <;> simp <;> omega
theorem fb_ct_split (p : Nat → Bool) (m : Nat) : ∀ n, fb_ct p (m + n) = fb_ct p m + fb_ct (fun k => p (m + k)) n
  | 0 => rfl
  | n + 1 => by
    have h := fb_ct_split p m n
    show fb_ct p (m + n + 1) = _
    rw [fb_ct_succ, fb_ct_succ, h, Nat.add_assoc]
theorem fb_ct_zero {p : Nat → Bool} : ∀ {n : Nat}, fb_ct p n = 0 ↔ ∀ k, k < n → p k = false
  | 0 => ⟨fun _ k hk => absurd hk (Nat.not_lt_zero k), fun _ => rfl⟩
  | n + 1 => by
    have h := fb_ct_zero (p := p) (n := n)
    rw [fb_ct_succ]
    constructor
    · intro e k hk
      have e1 : fb_ct p n = 0 := by omega
      rcases Nat.lt_or_ge k n with q | q
      · exact h.mp e1 k q
      · have ek : k = n := by omega
        subst ek
        cases hp : p k
        · rfl
        · simp [hp] at e
    · intro a
      rw [h.mpr (fun k hk => a k (by omega)), a n (by omega)]
      rfl
theorem fb_ct_pos {p : Nat → Bool} {n : Nat} : 0 < fb_ct p n ↔ ∃ k, k < n ∧ p k = true := by
  constructor
  · intro h
    refine Classical.byContradiction fun hx => ?_
    have := fb_ct_zero.mpr (fun k hk => by
      cases hp : p k
      · rfl
      · exact absurd ⟨k, hk, hp⟩ hx : ∀ k, k < n → p k = false)
    omega
  · rintro ⟨k, hk, hp⟩
    rcases Nat.eq_zero_or_pos (fb_ct p n) with e | e
    · have := fb_ct_zero.mp e k hk
      rw [this] at hp
      cases hp
    · exact e
theorem fb_ct_all {p : Nat → Bool} {n : Nat} : fb_ct p n = n ↔ ∀ k, k < n → p k = true := by
  have h := fb_ct_not p n
  constructor
  · intro e k hk
    have z : fb_ct (fun k => !p k) n = 0 := by omega
    have := fb_ct_zero.mp z k hk
    cases hp : p k
    · simp [hp] at this
    · rfl
  · intro a
    have z : fb_ct (fun k => !p k) n = 0 := fb_ct_zero.mpr (fun k hk => by simp [a k hk])
    omega
/-- the k-th place with the property -/
theorem fb_ct_kth {p : Nat → Bool} {k : Nat} : ∀ {n : Nat}, k < fb_ct p n → ∃ i, i < n ∧ p i = true ∧ fb_ct p i = k
  | 0, h => absurd h (Nat.not_lt_zero k)
  | n + 1, h => by
    rcases Nat.lt_or_ge k (fb_ct p n) with q | q
    · obtain ⟨i, h1, h2⟩ := fb_ct_kth q
      exact ⟨i, by omega, h2⟩
    · rw [fb_ct_succ] at h
      cases hp : p n
      · simp [hp] at h; omega
      · simp [hp] at h
        exact ⟨n, by omega, hp, by omega⟩
theorem fb_ct_kth_one {p : Nat → Bool} {i j : Nat} (hi : p i = true) (hj : p j = true) (e : fb_ct p i = fb_ct p j) : i = j := by
  have key : ∀ a b : Nat, a < b → p a = true → fb_ct p a < fb_ct p b := by
    intro a b hab ha
    have h := fb_ct_mono p (show a + 1 ≤ b from hab)
    rw [fb_ct_succ, ha] at h
    simp at h
    omega
  rcases Nat.lt_trichotomy i j with q | q | q
  · have := key i j q hi; omega
  · exact q
  · have := key j i q hj; omega
/-! ===== sums over a range: one place changed, parts, bounds ===== -/
def fb_sm (f : Nat → Nat) : Nat → Nat
  | 0 => 0
  | n + 1 => fb_sm f n + f n
theorem fb_sm_succ (f : Nat → Nat) (n : Nat) : fb_sm f (n + 1) = fb_sm f n + f n := rfl
theorem fb_sm_cong {f g : Nat → Nat} : ∀ {n : Nat}, (∀ k, k < n → f k = g k) → fb_sm f n = fb_sm g n
  | 0, _ => rfl
  | n + 1, h => by rw [fb_sm_succ, fb_sm_succ, fb_sm_cong (fun k hk => h k (by omega)), h n (by omega)]
theorem fb_sm_out (f : Nat → Nat) (v : Nat) {i n : Nat} (h : n ≤ i) : fb_sm (fun k => if k = i then v else f k) n = fb_sm f n :=
  fb_sm_cong fun k hk => if_neg (by omega)
theorem fb_sm_upd (f : Nat → Nat) (v : Nat) {i : Nat} : ∀ {n : Nat}, i < n → fb_sm (fun k => if k = i then v else f k) n + f i = fb_sm f n + v
  | 0, h => absurd h (Nat.not_lt_zero i)
  | n + 1, h => by
    rw [fb_sm_succ, fb_sm_succ]
    rcases Nat.lt_or_ge i n with q | q
    · have := fb_sm_upd f v q
      have e : (if n = i then v else f n) = f n := if_neg (by omega)
      rw [e]
      omega
    · have e : i = n := by omega
      subst e
      rw [fb_sm_out f v (Nat.le_refl _)]
      simp only [if_true]
      omega
theorem fb_sm_add (f g : Nat → Nat) : ∀ n, fb_sm (fun k => f k + g k) n = fb_sm f n + fb_sm g n
  | 0 => rfl
  | n + 1 => by
    have h := fb_sm_add f g n
    rw [fb_sm_succ, fb_sm_succ, fb_sm_succ, h]
    omega
theorem fb_sm_le {f g : Nat → Nat} : ∀ {n : Nat}, (∀ k, k < n → f k ≤ g k) → fb_sm f n ≤ fb_sm g n
  | 0, _ => Nat.le_refl _
  | n + 1, h => by
    have h1 := fb_sm_le (n := n) (f := f) (g := g) (fun k hk => h k (by omega))
    have h2 := h n (by omega)
    rw [fb_sm_succ, fb_sm_succ]
    omega
theorem fb_sm_const (c : Nat) : ∀ n, fb_sm (fun _ => c) n = n * c
  | 0 => by rw [Nat.zero_mul]; rfl
  | n + 1 => by rw [fb_sm_succ, fb_sm_const c n, Nat.succ_mul]
theorem fb_sm_bound {f : Nat → Nat} {c n : Nat} (h : ∀ k, k < n → f k ≤ c) : fb_sm f n ≤ n * c := by
  rw [← fb_sm_const c n]
  exact fb_sm_le h
theorem fb_sm_mono (f : Nat → Nat) (m : Nat) : ∀ n, fb_sm f m ≤ fb_sm f (m + n)
  | 0 => Nat.le_refl _
  | n + 1 => by
    have h := fb_sm_mono f m n
    show fb_sm f m ≤ fb_sm f (m + n + 1)
    rw [fb_sm_succ]
    omega
theorem fb_sm_part (f : Nat → Nat) {i n : Nat} (h : i < n) : fb_sm f i + f i ≤ fb_sm f n := by
  have := fb_sm_mono f (i + 1) (n - (i + 1))
  rw [fb_sm_succ, show i + 1 + (n - (i + 1)) = n by omega] at this
  exact this
theorem fb_sm_split (f : Nat → Nat) (m : Nat) : ∀ n, fb_sm f (m + n) = fb_sm f m + fb_sm (fun k => f (m + k)) n
  | 0 => rfl
  | n + 1 => by
    have h := fb_sm_split f m n
    show fb_sm f (m + n + 1) = _
    rw [fb_sm_succ, fb_sm_succ, h, Nat.add_assoc]
theorem fb_sm_zero {f : Nat → Nat} {n : Nat} (h : fb_sm f n = 0) : ∀ k, k < n → f k = 0 := fun k hk => by
  have := fb_sm_part f hk
  omega
/-- the same over whole numbers -/
def fb_si (f : Nat → Int) : Nat → Int
  | 0 => 0
  | n + 1 => fb_si f n + f n
theorem fb_si_succ (f : Nat → Int) (n : Nat) : fb_si f (n + 1) = fb_si f n + f n := rfl
theorem fb_si_cong {f g : Nat → Int} : ∀ {n : Nat}, (∀ k, k < n → f k = g k) → fb_si f n = fb_si g n
  | 0, _ => rfl
  | n + 1, h => by rw [fb_si_succ, fb_si_succ, fb_si_cong (fun k hk => h k (by omega)), h n (by omega)]
theorem fb_si_out (f : Nat → Int) (v : Int) {i n : Nat} (h : n ≤ i) : fb_si (fun k => if k = i then v else f k) n = fb_si f n :=
  fb_si_cong fun k hk => if_neg (by omega)
theorem fb_si_upd (f : Nat → Int) (v : Int) {i : Nat} : ∀ {n : Nat}, i < n → fb_si (fun k => if k = i then v else f k) n = fb_si f n - f i + v
  | 0, h => absurd h (Nat.not_lt_zero i)
  | n + 1, h => by
    rw [fb_si_succ, fb_si_succ]
    rcases Nat.lt_or_ge i n with q | q
    · have := fb_si_upd f v q
      have e : (if n = i then v else f n) = f n := if_neg (by omega)
      rw [e]
      omega
    · have e : i = n := by omega
      subst e
      rw [fb_si_out f v (Nat.le_refl _)]
      simp only [if_true]
      omega
theorem fb_si_add (f g : Nat → Int) : ∀ n, fb_si (fun k => f k + g k) n = fb_si f n + fb_si g n
  | 0 => rfl
  | n + 1 => by
    have h := fb_si_add f g n
    rw [fb_si_succ, fb_si_succ, fb_si_succ, h]
    omega
theorem fb_si_sub (f g : Nat → Int) : ∀ n, fb_si (fun k => f k - g k) n = fb_si f n - fb_si g n
  | 0 => rfl
  | n + 1 => by
    have h := fb_si_sub f g n
    rw [fb_si_succ, fb_si_succ, fb_si_succ, h]
    omega
theorem fb_si_mul (c : Int) (f : Nat → Int) : ∀ n, fb_si (fun k => c * f k) n = c * fb_si f n
  | 0 => (Int.mul_zero c).symm
  | n + 1 => by
    have h := fb_si_mul c f n
    rw [fb_si_succ, fb_si_succ, h, Int.mul_add]
theorem fb_si_split (f : Nat → Int) (m : Nat) : ∀ n, fb_si f (m + n) = fb_si f m + fb_si (fun k => f (m + k)) n
  | 0 => (Int.add_zero _).symm
  | n + 1 => by
    have h := fb_si_split f m n
    show fb_si f (m + n + 1) = _
    rw [fb_si_succ, fb_si_succ, h, Int.add_assoc]
theorem fb_si_nat (f : Nat → Nat) : ∀ n, fb_si (fun k => (f k : Int)) n = (fb_sm f n : Int)
  | 0 => rfl
  | n + 1 => by
    have h := fb_si_nat f n
    rw [fb_si_succ, fb_sm_succ, h]
    omega
theorem fb_si_bound {f : Nat → Int} {c : Int} (hc : 0 ≤ c) : ∀ {n : Nat}, (∀ k, k < n → -c ≤ f k ∧ f k ≤ c) → -(n * c) ≤ fb_si f n ∧ fb_si f n ≤ n * c
  | 0, _ => by simp [fb_si]
  | n + 1, h => by
    have h1 := fb_si_bound (n := n) (f := f) hc (fun k hk => h k (by omega))
    have h2 := h n (by omega)
    have e : ((n + 1 : Nat) : Int) * c = n * c + c := by rw [Int.natCast_add, Int.add_mul]; simp
    rw [fb_si_succ, e]
    omega
/-! ===== bits of a long that isn't negative ===== -/
theorem fb_andL (a b : Nat) : lN a &&& lN b = lN (a &&& b) := by
  apply Int64.toBitVec_inj.1
  show BitVec.ofNat 64 a &&& BitVec.ofNat 64 b = BitVec.ofNat 64 (a &&& b)
  apply BitVec.eq_of_getLsbD_eq
  intro i hi
  simp [hi]
theorem fb_orL (a b : Nat) : lN a ||| lN b = lN (a ||| b) := by
  apply Int64.toBitVec_inj.1
  show BitVec.ofNat 64 a ||| BitVec.ofNat 64 b = BitVec.ofNat 64 (a ||| b)
  apply BitVec.eq_of_getLsbD_eq
  intro i hi
  simp [hi]
theorem fb_xorL (a b : Nat) : lN a ^^^ lN b = lN (a ^^^ b) := by
  apply Int64.toBitVec_inj.1
  show BitVec.ofNat 64 a ^^^ BitVec.ofNat 64 b = BitVec.ofNat 64 (a ^^^ b)
  apply BitVec.eq_of_getLsbD_eq
  intro i hi
  simp [hi]
theorem fb_xorI (a b : Nat) : nI a ^^^ nI b = nI (a ^^^ b) := by
  apply Int32.toBitVec_inj.1
  show BitVec.ofNat 32 a ^^^ BitVec.ofNat 32 b = BitVec.ofNat 32 (a ^^^ b)
  apply BitVec.eq_of_getLsbD_eq
  intro i hi
  simp [hi]
theorem fb_maskL (n k : Nat) : lN n &&& lN (2 ^ k - 1) = lN (n % 2 ^ k) := by rw [fb_andL, Nat.and_two_pow_sub_one_eq_mod]
theorem fb_or_sumL {a k : Nat} (b : Nat) (h : a < 2 ^ k) : lN (2 ^ k * b) ||| lN a = lN (2 ^ k * b + a) := by rw [fb_orL, Nat.two_pow_add_eq_or_of_lt h]
theorem fb_lN_inj {a b : Nat} (ha : a < 2 ^ 63) (hb : b < 2 ^ 63) : lN a = lN b ↔ a = b := by
  constructor
  · intro h
    have h1 : (BitVec.ofNat 64 a).toNat = (BitVec.ofNat 64 b).toNat := congrArg (fun x : Int64 => x.toBitVec.toNat) h
    rw [BitVec.toNat_ofNat, BitVec.toNat_ofNat, Nat.mod_eq_of_lt (by omega), Nat.mod_eq_of_lt (by omega)] at h1
    exact h1
  · rintro rfl; rfl
theorem fb_bit_nat (n j : Nat) : n &&& 2 ^ j = 0 ↔ n.testBit j = false := by
  constructor
  · intro h
    have h1 : (n &&& 2 ^ j).testBit j = false := by rw [h]; simp
    rw [Nat.testBit_and] at h1
    simpa using h1
  · intro h
    apply Nat.eq_of_testBit_eq
    intro i
    rw [Nat.testBit_and]
    by_cases hi : j = i
    · subst hi; simp [h]
    · first | (simp [Nat.testBit_two_pow, hi]; done) | (simp [Nat.testBit_two_pow_of_ne hi]; done)
/-- one bit of a long -/
theorem fb_bitL {n j : Nat} (hj : j < 63) : lN n &&& lN (2 ^ j) = 0 ↔ n.testBit j = false := by
  have h2 : (2 : Nat) ^ j < 2 ^ 63 := Nat.pow_lt_pow_right (by decide) hj
  have hle : n &&& 2 ^ j ≤ 2 ^ j := Nat.and_le_right
  rw [fb_andL, ← fb_bit_nat, show (0 : Int64) = lN 0 from rfl]
  exact fb_lN_inj (by omega) (by decide)
/-- a bit set, a bit taken off -/
theorem fb_bit_set (n j i : Nat) : (n ||| 2 ^ j).testBit i = (n.testBit i || decide (i = j)) := by
  rw [Nat.testBit_or]
  by_cases h : j = i
  · subst h; simp
  · have h2 : ¬ i = j := fun e => h e.symm
    first | (simp [Nat.testBit_two_pow, h, h2]; done) | (simp [Nat.testBit_two_pow_of_ne h, h2]; done)
theorem fb_bit_flip (n j i : Nat) : (n ^^^ 2 ^ j).testBit i = (n.testBit i ^^ decide (i = j)) := by
  rw [Nat.testBit_xor]
  by_cases h : j = i
  · subst h; simp
  · have h2 : ¬ i = j := fun e => h e.symm
    first | (simp [Nat.testBit_two_pow, h, h2]; done) | (simp [Nat.testBit_two_pow_of_ne h, h2]; done)
/-! ===== a stretch of an array written over by a function ===== -/
def fb_put {α : Type} (f g : Nat → α) (a n : Nat) : Nat → α := fun k => if a ≤ k ∧ k < a + n then g (k - a) else f k
theorem fb_put_0 {α : Type} (f g : Nat → α) (a : Nat) : fb_put f g a 0 = f := funext fun k => if_neg (by omega)
theorem fb_put_in {α : Type} {f g : Nat → α} {a n k : Nat} (h1 : a ≤ k) (h2 : k < a + n) : fb_put f g a n k = g (k - a) := if_pos ⟨h1, h2⟩
theorem fb_put_out {α : Type} {f g : Nat → α} {a n k : Nat} (h : k < a ∨ a + n ≤ k) : fb_put f g a n k = f k := if_neg (by omega)
theorem fb_put_succ (f g : Nat → Int32) (a n : Nat) : upd (fb_put f g a n) (a + n) (g n) = fb_put f g a (n + 1) := by
  funext k
  by_cases h : k = a + n
  · subst h
    simp [upd, fb_put]
  · by_cases h1 : a ≤ k ∧ k < a + n
    · have h2 : a ≤ k ∧ k < a + (n + 1) := by omega
      simp only [upd, fb_put, if_neg h, if_pos h1, if_pos h2]
    · have h2 : ¬ (a ≤ k ∧ k < a + (n + 1)) := by omega
      simp only [upd, fb_put, if_neg h, if_neg h1, if_neg h2]
/-- .. from the far end down -/
theorem fb_put_down (f g : Nat → Int32) {a n m : Nat} (h : m < n) : upd (fb_put f (fun k => g (k + (m + 1))) (a + (m + 1)) (n - (m + 1))) (a + m) (g m) = fb_put f (fun k => g (k + m)) (a + m) (n - m) := by
  funext k
  by_cases h0 : k = a + m
  · subst h0
    simp only [upd, if_true]
    rw [fb_put_in (by omega) (by omega)]
    exact congrArg g (by omega)
  · simp only [upd, if_neg h0]
    by_cases h1 : a + (m + 1) ≤ k ∧ k < a + (m + 1) + (n - (m + 1))
    · rw [fb_put_in h1.1 h1.2, fb_put_in (by omega) (by omega)]
      exact congrArg g (by omega)
    · rw [fb_put_out (by omega), fb_put_out (by omega)]
theorem fb_put_cong {α : Type} {f f2 g g2 : Nat → α} {a n : Nat} (hf : ∀ k, (k < a ∨ a + n ≤ k) → f k = f2 k) (hg : ∀ k, k < n → g k = g2 k) : fb_put f g a n = fb_put f2 g2 a n := by
  funext k
  by_cases h : a ≤ k ∧ k < a + n
  · rw [fb_put_in h.1 h.2, fb_put_in h.1 h.2, hg _ (by omega)]
  · rw [fb_put_out (by omega), fb_put_out (by omega), hf _ (by omega)]
/-! ===== the least, the first, the best so far; that there is one alone ===== -/
theorem fb_first {p : Nat → Prop} [DecidablePred p] : ∀ {n : Nat}, (∃ i, i < n ∧ p i) → ∃ i, i < n ∧ p i ∧ ∀ j, j < i → ¬ p j
  | 0, h => by obtain ⟨i, hi, -⟩ := h; exact absurd hi (Nat.not_lt_zero i)
  | n + 1, h => by
    by_cases q : ∃ i, i < n ∧ p i
    · obtain ⟨i, h1, h2⟩ := fb_first q
      exact ⟨i, by omega, h2⟩
    · obtain ⟨i, h1, h2⟩ := h
      have e : i = n := by
        rcases Nat.lt_or_ge i n with r | r
        · exact absurd ⟨i, r, h2⟩ q
        · omega
      subst e
      exact ⟨i, by omega, h2, fun j hj hp => q ⟨j, hj, hp⟩⟩
theorem fb_first_one {p : Nat → Prop} {i j : Nat} (hi : p i) (hi2 : ∀ k, k < i → ¬ p k) (hj : p j) (hj2 : ∀ k, k < j → ¬ p k) : i = j := by
  rcases Nat.lt_trichotomy i j with q | q | q
  · exact absurd hi (hj2 i q)
  · exact q
  · exact absurd hj (hi2 j q)
theorem fb_last {p : Nat → Prop} [DecidablePred p] : ∀ {n : Nat}, (∃ i, i < n ∧ p i) → ∃ i, i < n ∧ p i ∧ ∀ j, i < j → j < n → ¬ p j
  | 0, h => by obtain ⟨i, hi, -⟩ := h; exact absurd hi (Nat.not_lt_zero i)
  | n + 1, h => by
    by_cases q : p n
    · exact ⟨n, by omega, q, fun j h1 h2 => by omega⟩
    · obtain ⟨i, h1, h2⟩ := h
      have hi : i < n := by
        rcases Nat.lt_or_ge i n with r | r
        · exact r
        · have e : i = n := by omega
          subst e
          exact absurd h2 q
      obtain ⟨i2, a1, a2, a3⟩ := fb_last (n := n) ⟨i, hi, h2⟩
      refine ⟨i2, by omega, a2, fun j b1 b2 => ?_⟩
      rcases Nat.lt_or_ge j n with r | r
      · exact a3 j b1 r
      · have e : j = n := by omega
        subst e
        exact q
/-- the first greatest -/
theorem fb_best (f : Nat → Int) : ∀ {n : Nat}, 0 < n → ∃ i, i < n ∧ (∀ j, j < n → f j ≤ f i) ∧ ∀ j, j < i → f j < f i
  | 0, h => absurd h (Nat.lt_irrefl 0)
  | 1, _ => ⟨0, by omega, fun j hj => by have e : j = 0 := by omega
                                         subst e; exact Int.le_refl _, fun j hj => absurd hj (Nat.not_lt_zero j)⟩
  | n + 2, _ => by
    obtain ⟨i, h1, h2, h3⟩ := fb_best f (n := n + 1) (by omega)
    by_cases q : f i < f (n + 1)
    · refine ⟨n + 1, by omega, fun j hj => ?_, fun j hj => ?_⟩
      · rcases Nat.lt_or_ge j (n + 1) with r | r
        · have := h2 j r; omega
        · have e : j = n + 1 := by omega
          subst e; exact Int.le_refl _
      · have := h2 j hj; omega
    · refine ⟨i, by omega, fun j hj => ?_, h3⟩
      rcases Nat.lt_or_ge j (n + 1) with r | r
      · exact h2 j r
      · have e : j = n + 1 := by omega
        subst e; omega
theorem fb_best_one {f : Nat → Int} {n i j : Nat} (hi : i < n) (hi2 : ∀ k, k < n → f k ≤ f i) (hi3 : ∀ k, k < i → f k < f i) (hj : j < n) (hj2 : ∀ k, k < n → f k ≤ f j) (hj3 : ∀ k, k < j → f k < f j) : i = j := by
  rcases Nat.lt_trichotomy i j with q | q | q
  · have a := hj3 i q
    have b := hi2 j hj
    omega
  · exact q
  · have a := hi3 j q
    have b := hj2 i hi
    omega
/-- the first least -/
theorem fb_low (f : Nat → Int) {n : Nat} (h : 0 < n) : ∃ i, i < n ∧ (∀ j, j < n → f i ≤ f j) ∧ ∀ j, j < i → f i < f j := by
  obtain ⟨i, h1, h2, h3⟩ := fb_best (fun k => -f k) h
  exact ⟨i, h1, fun j hj => by have := h2 j hj; omega, fun j hj => by have := h3 j hj; omega⟩
/-! ===== signed ints as whole numbers, within bounds ===== -/
theorem fb_rng (x : Int32) : -2147483648 ≤ x.toInt ∧ x.toInt < 2147483648 := by
  have h1 := Int32.le_toInt x
  have h2 := Int32.toInt_lt x
  omega
theorem fb_bmod {z : Int} (h1 : -2147483648 ≤ z) (h2 : z < 2147483648) : z.bmod (2 ^ 32) = z := by
  rw [Int.bmod_eq_of_le (by omega) (by omega)]
theorem fb_addI {x y : Int32} (h1 : -2147483648 ≤ x.toInt + y.toInt) (h2 : x.toInt + y.toInt < 2147483648) : (x + y).toInt = x.toInt + y.toInt := by
  rw [Int32.toInt_add, fb_bmod h1 h2]
theorem fb_subI {x y : Int32} (h1 : -2147483648 ≤ x.toInt - y.toInt) (h2 : x.toInt - y.toInt < 2147483648) : (x - y).toInt = x.toInt - y.toInt := by
  rw [Int32.toInt_sub, fb_bmod h1 h2]
theorem fb_mulI {x y : Int32} (h1 : -2147483648 ≤ x.toInt * y.toInt) (h2 : x.toInt * y.toInt < 2147483648) : (x * y).toInt = x.toInt * y.toInt := by
  rw [Int32.toInt_mul, fb_bmod h1 h2]
theorem fb_negI {x : Int32} (h : x.toInt ≠ -2147483648) : (-x).toInt = -x.toInt := by
  have := fb_rng x
  rw [Int32.toInt_neg, fb_bmod (by omega) (by omega)]
theorem fb_ofI {z : Int} (h1 : -2147483648 ≤ z) (h2 : z < 2147483648) : (Int32.ofInt z).toInt = z := by
  rw [Int32.toInt_ofInt, fb_bmod h1 h2]
theorem fb_asI (x : Int32) : Int32.ofInt x.toInt = x := Int32.ofInt_toInt x
theorem fb_rngL (x : Int64) : -9223372036854775808 ≤ x.toInt ∧ x.toInt < 9223372036854775808 := by
  have h1 := Int64.le_toInt x
  have h2 := Int64.toInt_lt x
  omega
theorem fb_bmodL {z : Int} (h1 : -9223372036854775808 ≤ z) (h2 : z < 9223372036854775808) : z.bmod (2 ^ 64) = z := by
  rw [Int.bmod_eq_of_le (by omega) (by omega)]
theorem fb_addL {x y : Int64} (h1 : -9223372036854775808 ≤ x.toInt + y.toInt) (h2 : x.toInt + y.toInt < 9223372036854775808) : (x + y).toInt = x.toInt + y.toInt := by
  rw [Int64.toInt_add, fb_bmodL h1 h2]
theorem fb_subL {x y : Int64} (h1 : -9223372036854775808 ≤ x.toInt - y.toInt) (h2 : x.toInt - y.toInt < 9223372036854775808) : (x - y).toInt = x.toInt - y.toInt := by
  rw [Int64.toInt_sub, fb_bmodL h1 h2]
theorem fb_mulL {x y : Int64} (h1 : -9223372036854775808 ≤ x.toInt * y.toInt) (h2 : x.toInt * y.toInt < 9223372036854775808) : (x * y).toInt = x.toInt * y.toInt := by
  rw [Int64.toInt_mul, fb_bmodL h1 h2]
/-! ===== cuts of what is narrow already ===== -/
theorem fb_byte {x : Int32} (h1 : -128 ≤ x.toInt) (h2 : x.toInt < 128) : x.toInt8.toInt32 = x := by
  apply Int32.toInt_inj.1
  rw [Int8.toInt_toInt32, Int32.toInt_toInt8, Int.bmod_eq_of_le (by omega) (by omega)]
theorem fb_short {x : Int32} (h1 : -32768 ≤ x.toInt) (h2 : x.toInt < 32768) : x.toInt16.toInt32 = x := by
  apply Int32.toInt_inj.1
  rw [Int16.toInt_toInt32, Int32.toInt_toInt16, Int.bmod_eq_of_le (by omega) (by omega)]
theorem fb_byte_rng (x : Int32) : -128 ≤ x.toInt8.toInt32.toInt ∧ x.toInt8.toInt32.toInt < 128 := by
  rw [Int8.toInt_toInt32]
  have h1 := Int8.le_toInt x.toInt8
  have h2 := Int8.toInt_lt x.toInt8
  omega
theorem fb_short_rng (x : Int32) : -32768 ≤ x.toInt16.toInt32.toInt ∧ x.toInt16.toInt32.toInt < 32768 := by
  rw [Int16.toInt_toInt32]
  have h1 := Int16.le_toInt x.toInt16
  have h2 := Int16.toInt_lt x.toInt16
  omega
theorem fb_byte_twice (x : Int32) : x.toInt8.toInt32.toInt8.toInt32 = x.toInt8.toInt32 := fb_byte (fb_byte_rng x).1 (fb_byte_rng x).2
theorem fb_short_twice (x : Int32) : x.toInt16.toInt32.toInt16.toInt32 = x.toInt16.toInt32 := fb_short (fb_short_rng x).1 (fb_short_rng x).2
theorem fb_char {n : Nat} (h : n < 65536) : (nI n).toUInt32.toUInt16.toUInt32.toInt32 = nI n := by
  apply Int32.toBitVec_inj.1
  apply BitVec.eq_of_toNat_eq
  have e1 : (nI n).toBitVec.toNat = n := by
    show (BitVec.ofNat 32 n).toNat = n
    rw [BitVec.toNat_ofNat, Nat.mod_eq_of_lt (by omega)]
  have e2 : ((nI n).toUInt32.toUInt16.toUInt32).toNat = n := by
    rw [UInt16.toNat_toUInt32, UInt32.toNat_toUInt16]
    show (nI n).toBitVec.toNat % 2 ^ 16 = n
    rw [e1, Nat.mod_eq_of_lt (by omega)]
  rw [e1]
  exact e2
end
section
/-! ===== Int32 by its bits: bt x i ===== -/
def bt (x : Int32) (i : Nat) : Bool := x.toBitVec.getLsbD i
theorem b_ext {x y : Int32} (h : ∀ i, i < 32 → bt x i = bt y i) : x = y := Int32.toBitVec_inj.mp (BitVec.eq_of_getLsbD_eq (fun i hi => h i hi))
theorem b_or (x y : Int32) (i : Nat) : bt (x ||| y) i = (bt x i || bt y i) := by unfold bt; rw [Int32.toBitVec_or, BitVec.getLsbD_or]
theorem b_and (x y : Int32) (i : Nat) : bt (x &&& y) i = (bt x i && bt y i) := by unfold bt; rw [Int32.toBitVec_and, BitVec.getLsbD_and]
theorem b_xor (x y : Int32) (i : Nat) : bt (x ^^^ y) i = (bt x i ^^ bt y i) := by unfold bt; rw [Int32.toBitVec_xor, BitVec.getLsbD_xor]
theorem b_big {x : Int32} {i : Nat} (h : 32 ≤ i) : bt x i = false := BitVec.getLsbD_of_ge _ _ h
theorem b_255 (i : Nat) : bt 255 i = decide (i < 8) := by
  rcases Nat.lt_or_ge i 32 with h | h
  · exact (by decide +kernel : ∀ i, i < 32 → bt 255 i = decide (i < 8)) i h
  · rw [b_big h, decide_eq_false (by omega)]
theorem b_65535 (i : Nat) : bt 65535 i = decide (i < 16) := by
  rcases Nat.lt_or_ge i 32 with h | h
  · exact (by decide +kernel : ∀ i, i < 32 → bt 65535 i = decide (i < 16)) i h
  · rw [b_big h, decide_eq_false (by omega)]
theorem b_m1 : ∀ i, i < 32 → bt (-1) i = true := by decide +kernel
theorem b_0 (i : Nat) : bt 0 i = false := BitVec.getLsbD_zero
theorem s_l : ∀ n, n < 32 → ((nI n &&& 31).toBitVec.smod 32).toNat = n := by decide +kernel
theorem s_u : ∀ n, n < 32 → (((nI n).toUInt32 &&& Int32.toUInt32 31).toBitVec % 32).toNat = n := by decide +kernel
theorem b_shl (n : Nat) (hn : n < 32) (x : Int32) {i : Nat} (hi : i < 32) : bt (x <<< (nI n &&& 31)) i = (decide (n ≤ i) && bt x (i - n)) := by
  unfold bt
  rw [Int32.toBitVec_shiftLeft]
  show (x.toBitVec <<< ((nI n &&& 31).toBitVec.smod 32).toNat).getLsbD i = _
  rw [s_l n hn, BitVec.getLsbD_shiftLeft]
  rcases Nat.lt_or_ge i n with h | h
  · simp [h, Nat.not_le.mpr h]
  · simp [hi, h, Nat.not_lt.mpr h]
theorem b_ushr (n : Nat) (hn : n < 32) (x : Int32) (i : Nat) : bt ((x.toUInt32 >>> ((nI n).toUInt32 &&& Int32.toUInt32 31)).toInt32) i = bt x (n + i) := by
  show (x.toUInt32 >>> ((nI n).toUInt32 &&& Int32.toUInt32 31)).toBitVec.getLsbD i = x.toUInt32.toBitVec.getLsbD (n + i)
  rw [UInt32.toBitVec_shiftRight]
  show (x.toUInt32.toBitVec >>> (((nI n).toUInt32 &&& Int32.toUInt32 31).toBitVec % 32).toNat).getLsbD i = _
  rw [s_u n hn, BitVec.getLsbD_ushiftRight]
theorem b_sshr (n : Nat) (hn : n < 32) (x : Int32) {i : Nat} (hi : i < 32) : bt (x >>> (nI n &&& 31)) i = if n + i < 32 then bt x (n + i) else bt x 31 := by
  unfold bt
  rw [Int32.toBitVec_shiftRight]
  show (x.toBitVec.sshiftRight ((nI n &&& 31).toBitVec.smod 32).toNat).getLsbD i = _
  rw [s_l n hn, BitVec.getLsbD_sshiftRight, BitVec.msb_eq_getLsbD_last]
  simp [hi]
theorem b_shl8 (x : Int32) {i : Nat} (hi : i < 32) : bt (x <<< ((8 : Int32) &&& 31)) i = (decide (8 ≤ i) && bt x (i - 8)) := b_shl 8 (by omega) x hi
theorem b_shl16 (x : Int32) {i : Nat} (hi : i < 32) : bt (x <<< ((16 : Int32) &&& 31)) i = (decide (16 ≤ i) && bt x (i - 16)) := b_shl 16 (by omega) x hi
theorem b_shl24 (x : Int32) {i : Nat} (hi : i < 32) : bt (x <<< ((24 : Int32) &&& 31)) i = (decide (24 ≤ i) && bt x (i - 24)) := b_shl 24 (by omega) x hi
theorem b_sshr8 (x : Int32) {i : Nat} (hi : i < 32) : bt (x >>> ((8 : Int32) &&& 31)) i = if 8 + i < 32 then bt x (8 + i) else bt x 31 := b_sshr 8 (by omega) x hi
theorem bt_bI (b : Bool) (i : Nat) : bt (bI b) i = (b && decide (i = 0)) := by
  cases b with
  | false => rw [bI_f, b_0]; rfl
  | true =>
    rw [bI_t]
    by_cases h : i < 32
    · have key : ∀ i : Fin 32, bt 1 i = decide (i.val = 0) := by decide +kernel
      simpa using key ⟨i, h⟩
    · rw [b_big (by omega)]
      simp; omega
theorem bt_1 (i : Nat) : bt (nI 1) i = decide (i = 0) := by
  have h : bt (nI 1) i = (true && decide (i = 0)) := bt_bI true i
  rw [h, Bool.true_and]
theorem hold_bit (x : Int32) {s : Nat} (hs : s < 31) : (x >>> (nI s &&& 31)) &&& nI 1 = bI (bt x s) := by
  refine b_ext fun i hi => ?_
  rw [b_and, b_sshr s (by omega) x hi, bt_1, bt_bI]
  by_cases h : i = 0
  · subst h
    simp; omega
  · simp [h]
theorem bt_one {n i : Nat} (hn : n < 32) (hi : i < 32) : bt (nI 1 <<< (nI n &&& 31)) i = decide (i = n) := by
  rw [b_shl n hn _ hi, bt_1]
  by_cases h : n ≤ i
  · simp [h]; omega
  · simp [h]; omega
theorem bt_clr (x : Int32) {n i : Nat} (hn : n < 32) (hi : i < 32) : bt (x &&& ((nI 1 <<< (nI n &&& 31)) ^^^ (-1))) i = (bt x i && !decide (i = n)) := by
  rw [b_and, b_xor, bt_one hn hi, b_m1 i hi]
  simp
theorem bt_set (x : Int32) {n i : Nat} (hn : n < 32) (hi : i < 32) : bt ((x &&& ((nI 1 <<< (nI n &&& 31)) ^^^ (-1))) ||| (nI 1 <<< (nI n &&& 31))) i = (bt x i || decide (i = n)) := by
  rw [b_or, bt_clr x hn hi, bt_one hn hi]
  by_cases h : i = n <;> simp [h]
theorem bt_15 {i : Nat} : bt (nI 15) i = decide (i < 4) := by
  by_cases h : i < 32
  · have key : ∀ i : Fin 32, bt (nI 15) i = decide (i.val < 4) := by decide +kernel
    exact key ⟨i, h⟩
  · rw [b_big (by omega)]
    symm
    exact decide_eq_false (by omega)
theorem bt_m16 : ∀ i, i < 32 → bt (-16) i = decide (4 ≤ i) := by decide +kernel
theorem bt_ext0 {x : Int32} : x = 0 ↔ ∀ i, i < 32 → bt x i = false := ⟨fun h i _ => by rw [h, b_0], fun h => b_ext fun i hi => by rw [h i hi, b_0]⟩
end
section
/-! the two worlds: SevenKeys at ρ 0 (its sheet, held, marks, queue, cells, keys at ρ 1 .. ρ 6), the model at μ 0 (its twelve rows at μ 1 .. μ 12) -/
abbrev KK (D : va_G) (cI cZ : ClassId) (U : State) : Prop := va_K D vwCl [(cI, .int), (cZ, .boolean)] U
def In7 (n : Nat) (ρ : Nat → Nat) : Prop := ∀ i j : Nat, i < n → j < n → ρ i = ρ j → i = j
def xA (n : Nat) (ρ : Nat → Nat) (a : Nat) : Prop := ∃ i : Nat, i < n ∧ a = ρ i
abbrev xW (cI : ClassId) (ρ : Nat → Nat) (held : Nat → Int32) (κ : Int32) (mk qu : Nat → Int32) : va_W :=
  [(ρ 0, .inr (1, [.ref (ρ 1), .ref (ρ 2), .int κ, .ref (ρ 3), .ref (ρ 4)])), (ρ 1, .inr (0, [.ref (ρ 5), .ref (ρ 6)])), (ρ 2, .inl (cI, 2401, .inl held)), (ρ 3, .inl (cI, 2401, .inl mk)), (ρ 4, .inl (cI, 2401, .inl qu)), (ρ 5, .inl (cI, 2401, .inl cellF)), (ρ 6, .inl (cI, 4225, .inl keyF))]
abbrev mW (cI cZ : ClassId) (μ : Nat → Nat) (M : Nat → Nat → Int32) (V : Nat → Int32) : va_W :=
  [(μ 0, .inr (2, [.ref (μ 1), .ref (μ 2), .ref (μ 3), .ref (μ 4), .ref (μ 5), .ref (μ 6), .ref (μ 7), .ref (μ 8), .ref (μ 9), .int (V 0), .ref (μ 10), .ref (μ 11), .ref (μ 12), .int (V 1), .int (V 2)])),
   (μ 1, .inl (cI, 2401, .inl (M 1))), (μ 2, .inl (cI, 2401, .inl (M 2))), (μ 3, .inl (cI, 14641, .inl (M 3))), (μ 4, .inl (cZ, 28812, .inl (M 4))), (μ 5, .inl (cZ, 2, .inl (M 5))), (μ 6, .inl (cZ, 2401, .inl (M 6))), (μ 7, .inl (cZ, 2401, .inl (M 7))), (μ 8, .inl (cI, 2401, .inl (M 8))), (μ 9, .inl (cI, 2401, .inl (M 9))), (μ 10, .inl (cI, 2401, .inl (M 10))), (μ 11, .inl (cI, 2401, .inl (M 11))), (μ 12, .inl (cI, 2401, .inl (M 12)))]
/-- σ s k: whether the hex k is of the set s (0 to 3: the slots; 4 to 7: image 0; 8 to 11: image 1) -/
def RelX (held : Nat → Int32) (σ : Nat → Nat → Bool) : Prop := ∀ k : Nat, k < 2401 → ∀ i : Nat, i < 32 → bt (held k) i = (decide (i < 12) && σ i k)
def RelM (sets : Nat → Int32) (σ : Nat → Nat → Bool) : Prop := ∀ s k : Nat, s < 12 → k < 2401 → sets (2401 * s + k) = bI (σ s k)
def XP (D : va_G) (cI : ClassId) (ρ : Nat → Nat) (σ : Nat → Nat → Bool) (κ : Int32) (mk qu : Nat → Int32) (H : Heap) : Prop := ∃ held : Nat → Int32, RelX held σ ∧ va_P D vwCl (xW cI ρ held κ mk qu) H
def stF (d : Nat) : Int32 := iI (65 * sA d + sB d)
def XK (D : va_G) (cI cZ : ClassId) (ρ : Nat → Nat) (ts : Nat) (U : State) (H : Heap) : Prop := KK D cI cZ U ∧ In7 7 ρ ∧ va_Z RX0 "SIDE_STEPS" "[I" (.ref ts) (xA 7 ρ) U H ∧ va_T .int ts 7 (fun j => .int (stF j)) (xA 7 ρ) U H ∧ va_Nw (.methodLinkNest RX0 31 yX1_valueAt "SevenKeys") U ∧ va_Nw (.methodLinkNest RX0 42 yX1_within "SevenKeys") U
def XB (D : va_G) (cI cZ : ClassId) (ρ : Nat → Nat) (ts : Nat) (σ : Nat → Nat → Bool) (κ : Int32) (mk qu : Nat → Int32) (U : State) : Prop := XP D cI ρ σ κ mk qu U.heap ∧ XK D cI cZ ρ ts U U.heap
theorem XW_at {cI : ClassId} {ρ : Nat → Nat} {held : Nat → Int32} {κ : Int32} {mk qu : Nat → Int32} : ∀ (i : Nat) (q : Nat × va_E), (xW cI ρ held κ mk qu)[i]? = some q → i < 7 ∧ q.1 = ρ i := by
  intro i q h
  match i, h with
  | 0, h => cases h; exact ⟨by omega, rfl⟩
  | 1, h => cases h; exact ⟨by omega, rfl⟩
  | 2, h => cases h; exact ⟨by omega, rfl⟩
  | 3, h => cases h; exact ⟨by omega, rfl⟩
  | 4, h => cases h; exact ⟨by omega, rfl⟩
  | 5, h => cases h; exact ⟨by omega, rfl⟩
  | 6, h => cases h; exact ⟨by omega, rfl⟩
  | i + 7, h => simp [xW] at h
theorem MW_at {cI cZ : ClassId} {μ : Nat → Nat} {M : Nat → Nat → Int32} {V : Nat → Int32} : ∀ (i : Nat) (q : Nat × va_E), (mW cI cZ μ M V)[i]? = some q → i < 13 ∧ q.1 = μ i := by
  intro i q h
  match i, h with
  | 0, h => cases h; exact ⟨by omega, rfl⟩
  | 1, h => cases h; exact ⟨by omega, rfl⟩
  | 2, h => cases h; exact ⟨by omega, rfl⟩
  | 3, h => cases h; exact ⟨by omega, rfl⟩
  | 4, h => cases h; exact ⟨by omega, rfl⟩
  | 5, h => cases h; exact ⟨by omega, rfl⟩
  | 6, h => cases h; exact ⟨by omega, rfl⟩
  | 7, h => cases h; exact ⟨by omega, rfl⟩
  | 8, h => cases h; exact ⟨by omega, rfl⟩
  | 9, h => cases h; exact ⟨by omega, rfl⟩
  | 10, h => cases h; exact ⟨by omega, rfl⟩
  | 11, h => cases h; exact ⟨by omega, rfl⟩
  | 12, h => cases h; exact ⟨by omega, rfl⟩
  | i + 13, h => simp [mW] at h
theorem In7.D {n : Nat} {ρ : Nat → Nat} {ws : va_W} (hI : In7 n ρ) (hw : ∀ (i : Nat) (q : Nat × va_E), ws[i]? = some q → i < n ∧ q.1 = ρ i) : va_D (xA n ρ) ws :=
  ⟨fun i j p q h1 h2 h3 => hI i j (hw i p h1).1 (hw j q h2).1 (by rw [← (hw i p h1).2, ← (hw j q h2).2]; exact h3), fun k q h => ⟨k, (hw k q h).1, (hw k q h).2⟩⟩
theorem XK.D {D : va_G} {cI cZ : ClassId} {ρ : Nat → Nat} {ts : Nat} {U : State} {H : Heap} (h : XK D cI cZ ρ ts U H) {held : Nat → Int32} {κ : Int32} {mk qu : Nat → Int32} : va_D (xA 7 ρ) (xW cI ρ held κ mk qu) := h.2.1.D XW_at
theorem XK.hb {D : va_G} {cI cZ : ClassId} {ρ : Nat → Nat} {ts : Nat} {U V : State} {H : Heap} (hv : U.vm = V.vm) (h : XK D cI cZ ρ ts U H) : XK D cI cZ ρ ts V H := by
  obtain ⟨h1, h2, h3, h4, h5, h6⟩ := h
  have ha : U.vm.Alike V.vm := by rw [hv]; exact Vm.Alike.refl _
  exact ⟨va_K.moved ha h1, h2, va_Z.moved ha h3, va_T.moved ha h4, va_Nw.same rfl hv h5, va_Nw.same rfl hv h6⟩
theorem XK.at {D : va_G} {cI cZ : ClassId} {ρ : Nat → Nat} {ts : Nat} {s U : State} {H : Heap} {locs : List Loc} (h : XK D cI cZ ρ ts s s.heap) (hS : va_S (xA 7 ρ) s.heap H locs) (hW : s.WarmedH U.vm) : XK D cI cZ ρ ts U H := by
  obtain ⟨h1, h2, h3, h4, h5, h6⟩ := h
  exact ⟨va_K.moved hW.alike h1, h2, va_Z.moved hW.alike (h3.kept hS.2.1), va_T.moved hW.alike (h4.kept hS.2.1), va_Nw.warmM hW h5, va_Nw.warmM hW h6⟩
theorem XB.hb {D : va_G} {cI cZ : ClassId} {ρ : Nat → Nat} {ts : Nat} {σ : Nat → Nat → Bool} {κ : Int32} {mk qu : Nat → Int32} : HB (XB D cI cZ ρ ts σ κ mk qu) := by
  intro U V hh hv h
  refine ⟨by rw [← hh]; exact h.1, ?_⟩
  rw [← hh]
  exact h.2.hb hv
theorem XB.at {D : va_G} {cI cZ : ClassId} {ρ : Nat → Nat} {ts : Nat} {s : State} {H : Heap} {locs : List Loc} {σ : Nat → Nat → Bool} {κ : Int32} {mk qu : Nat → Int32} (h : XK D cI cZ ρ ts s s.heap) (hS : va_S (xA 7 ρ) s.heap H locs) (hP : XP D cI ρ σ κ mk qu H) : ∀ U : State, U.heap = H → s.WarmedH U.vm → XB D cI cZ ρ ts σ κ mk qu U := by
  intro U hU hW
  refine ⟨by rw [hU]; exact hP, ?_⟩
  rw [hU]
  exact h.at hS hW
theorem XP.rc0 {D : va_G} {cI cZ : ClassId} {ρ : Nat → Nat} {ts : Nat} {s : State} {H H0 : Heap} {held : Nat → Int32} {κ : Int32} {mk qu : Nat → Int32} (h : XK D cI cZ ρ ts s H0) (hP : va_P D vwCl (xW cI ρ held κ mk qu) H) : ∃ cell : Cell, H[ρ 0]? = some cell ∧ cell.vm.isStatics = false ∧ s.vm.findClass RX1 = some cell.cls := va_recv h.1 hP (ci := 1) (q0 := 0) rfl rfl
theorem XP.rc1 {D : va_G} {cI cZ : ClassId} {ρ : Nat → Nat} {ts : Nat} {s : State} {H H0 : Heap} {held : Nat → Int32} {κ : Int32} {mk qu : Nat → Int32} (h : XK D cI cZ ρ ts s H0) (hP : va_P D vwCl (xW cI ρ held κ mk qu) H) : ∃ cell : Cell, H[ρ 1]? = some cell ∧ cell.vm.isStatics = false ∧ s.vm.findClass RX0 = some cell.cls := va_recv h.1 hP (ci := 0) (q0 := 1) rfl rfl
/-! the model's world -/
def MP (D : va_G) (cI cZ : ClassId) (μ : Nat → Nat) (σ : Nat → Nat → Bool) (M : Nat → Nat → Int32) (V : Nat → Int32) (H : Heap) : Prop := RelM (M 4) σ ∧ (∀ k, k < 2401 → M 1 k = iI (ptA k) ∧ M 2 k = iI (ptB k)) ∧ M 3 = keyG ∧ va_P D vwCl (mW cI cZ μ M V) H
def MK (D : va_G) (cI cZ : ClassId) (μ : Nat → Nat) (U : State) : Prop := KK D cI cZ U ∧ In7 13 μ
def MB (D : va_G) (cI cZ : ClassId) (μ : Nat → Nat) (σ : Nat → Nat → Bool) (M : Nat → Nat → Int32) (V : Nat → Int32) (U : State) : Prop := MP D cI cZ μ σ M V U.heap ∧ MK D cI cZ μ U
theorem MK.D {D : va_G} {cI cZ : ClassId} {μ : Nat → Nat} {U : State} (h : MK D cI cZ μ U) {M : Nat → Nat → Int32} {V : Nat → Int32} : va_D (xA 13 μ) (mW cI cZ μ M V) := h.2.D MW_at
theorem MB.hb {D : va_G} {cI cZ : ClassId} {μ : Nat → Nat} {σ : Nat → Nat → Bool} {M : Nat → Nat → Int32} {V : Nat → Int32} : HB (MB D cI cZ μ σ M V) := by
  intro U V' hh hv h
  have ha : U.vm.Alike V'.vm := by rw [hv]; exact Vm.Alike.refl _
  exact ⟨by rw [← hh]; exact h.1, va_K.moved ha h.2.1, h.2.2⟩
theorem MB.at {D : va_G} {cI cZ : ClassId} {μ : Nat → Nat} {s : State} {H : Heap} {σ : Nat → Nat → Bool} {M : Nat → Nat → Int32} {V : Nat → Int32} (h : MK D cI cZ μ s) (hP : MP D cI cZ μ σ M V H) : ∀ U : State, U.heap = H → s.WarmedH U.vm → MB D cI cZ μ σ M V U := fun U hU hW => ⟨by rw [hU]; exact hP, va_K.moved hW.alike h.1, h.2⟩
theorem MP.rc0 {D : va_G} {cI cZ : ClassId} {μ : Nat → Nat} {s : State} {H : Heap} {M : Nat → Nat → Int32} {V : Nat → Int32} (h : MK D cI cZ μ s) (hP : va_P D vwCl (mW cI cZ μ M V) H) : ∃ cell : Cell, H[μ 0]? = some cell ∧ cell.vm.isStatics = false ∧ s.vm.findClass RX2 = some cell.cls := va_recv h.1 hP (ci := 2) (q0 := 0) rfl rfl
/-! rows by Nat places -/
section ROWS
variable {p : Program} {l : Launch} {e : Env} {R : Room} {s : State} {m : MethodId} {args : Array Value} {below : List Frame} {meth : Method} {c : Code} {H : Heap} {locs : List Loc} {cells slots : Nat} {Q : State → Prop}
variable {cc : ByteArray} {pc : Nat} {ls : Array Slot} {rest : List Value} {D : va_G} {cl : List vw_C} {A : Nat → Prop} {a : Nat} {tys : List (ClassId × FieldType)} {ws : va_W} {H0 : Heap}
theorem nv_iald (hx : p.tables.exec = Jvm.exec) (hb : c.code = cc) (hK : va_K D cl tys s) (hP : va_P D cl ws H) (q0 t0 : Nat) {cA : ClassId} {n : Nat} {f : Nat → Int32} (ha : ws[q0]? = some (a, .inl (cA, n, .inl f))) (ht : tys[t0]? = some (cA, .int)) {i : Nat} (hin : i < n) (hn : n < 2 ^ 31) (hdg : decode cc pc = .ok (.iaload, 1))
    (kk : W p l e R s m args below meth c H locs cells slots Q (F0 m (pc + 1) ls (.int (f i) :: rest))) : W p l e R s m args below meth c H locs cells slots Q (F0 m pc ls (.int (nI i) :: .ref a :: rest)) := by
  refine va_iald hx hb hK hP q0 t0 ha ht (vp_in_nI hin hn) hdg ?_
  rw [nI_clamp (Nat.lt_trans hin hn)]
  exact kk
theorem nv_zald (hx : p.tables.exec = Jvm.exec) (hb : c.code = cc) (hK : va_K D cl tys s) (hP : va_P D cl ws H) (q0 t0 : Nat) {cA : ClassId} {n : Nat} {f : Nat → Int32} (ha : ws[q0]? = some (a, .inl (cA, n, .inl f))) (ht : tys[t0]? = some (cA, .boolean)) {i : Nat} (hin : i < n) (hn : n < 2 ^ 31) (hdg : decode cc pc = .ok (.baload, 1))
    (kk : W p l e R s m args below meth c H locs cells slots Q (F0 m (pc + 1) ls (.int (f i) :: rest))) : W p l e R s m args below meth c H locs cells slots Q (F0 m pc ls (.int (nI i) :: .ref a :: rest)) := by
  refine va_zald hx hb hK hP q0 t0 ha ht (vp_in_nI hin hn) hdg ?_
  rw [nI_clamp (Nat.lt_trans hin hn)]
  exact kk
theorem nv_iast (hx : p.tables.exec = Jvm.exec) (hb : c.code = cc) (hK : va_K D cl tys s) (hP : va_P D cl ws H) (hD : va_D A ws) (hS : va_S A H0 H locs) (q0 t0 : Nat) {cA : ClassId} {n : Nat} {f : Nat → Int32} (ha : ws[q0]? = some (a, .inl (cA, n, .inl f))) (ht : tys[t0]? = some (cA, .int)) {i : Nat} {x : Int32} (hin : i < n) (hn : n < 2 ^ 31) (hdg : decode cc pc = .ok (.iastore, 1))
    (kk : ∀ (H1 : Heap) (locs1 : List Loc), va_P D cl (ws.set q0 (a, .inl (cA, n, .inl (upd f i x)))) H1 → va_S A H0 H1 locs1 → W p l e R s m args below meth c H1 locs1 cells slots Q (F0 m (pc + 1) ls rest)) : W p l e R s m args below meth c H locs cells slots Q (F0 m pc ls (.int x :: .int (nI i) :: .ref a :: rest)) := by
  refine va_iast hx hb hK hP hD hS q0 t0 ha ht (vp_in_nI hin hn) hdg fun H1 locs1 h1 _ h3 => ?_
  rw [nI_clamp (Nat.lt_trans hin hn)] at h1
  exact kk H1 locs1 h1 h3
theorem nar_bI (b : Bool) : vp_nar .boolean (bI b) = bI b := by cases b <;> rfl
theorem nv_zast (hx : p.tables.exec = Jvm.exec) (hb : c.code = cc) (hK : va_K D cl tys s) (hP : va_P D cl ws H) (hD : va_D A ws) (hS : va_S A H0 H locs) (q0 t0 : Nat) {cA : ClassId} {n : Nat} {f : Nat → Int32} (ha : ws[q0]? = some (a, .inl (cA, n, .inl f))) (ht : tys[t0]? = some (cA, .boolean)) {i : Nat} {x : Bool} (hin : i < n) (hn : n < 2 ^ 31) (hdg : decode cc pc = .ok (.bastore, 1))
    (kk : ∀ (H1 : Heap) (locs1 : List Loc), va_P D cl (ws.set q0 (a, .inl (cA, n, .inl (upd f i (bI x))))) H1 → va_S A H0 H1 locs1 → W p l e R s m args below meth c H1 locs1 cells slots Q (F0 m (pc + 1) ls rest)) : W p l e R s m args below meth c H locs cells slots Q (F0 m pc ls (.int (bI x) :: .int (nI i) :: .ref a :: rest)) := by
  refine va_zast hx hb hK hP hD hS q0 t0 ha ht (vp_in_nI hin hn) hdg fun H1 locs1 h1 _ h3 => ?_
  rw [nI_clamp (Nat.lt_trans hin hn), nar_bI] at h1
  exact kk H1 locs1 h1 h3
end ROWS
theorem inc_nI (t : Nat) : nI t + Int32.ofInt 1 = nI (t + 1) := nI_1 t
theorem dec_nI (t : Nat) : nI (t + 1) + Int32.ofInt (-1) = nI t := pk_m1 t
end
section
def wI (x lo hi : Int32) : Bool := decide (lo ≤ x) && decide (x ≤ hi)
theorem wI_t {x lo hi : Int32} (h1 : lo ≤ x) (h2 : x ≤ hi) : bI (wI x lo hi) = nI 1 := by simp [wI, h1, h2]; rfl
theorem wI_fl {x lo hi : Int32} (h : x < lo) : bI (wI x lo hi) = nI 0 := by
  have h1 : ¬ lo ≤ x := Int32.not_le.mpr h
  simp [wI, h1]; rfl
theorem wI_fg {x lo hi : Int32} (h : hi < x) : bI (wI x lo hi) = nI 0 := by
  have h1 : ¬ x ≤ hi := Int32.not_le.mpr h
  simp [wI, h1]; rfl
theorem wI_nat {x : Int32} {n : Nat} (h : wI x (nI 0) (nI n) = true) (hn : n < 2 ^ 31) : ∃ k : Nat, k ≤ n ∧ x = nI k := by
  simp only [wI, Bool.and_eq_true, decide_eq_true_eq] at h
  exact nI_of2 (M := nI n) (nI_toInt hn) (Int32.not_lt.mpr h.1) h.2
theorem wI_nI {k n : Nat} (hk : k < 2 ^ 31) (hn : n < 2 ^ 31) : wI (nI k) (nI 0) (nI n) = decide (k ≤ n) := by
  unfold wI
  rw [show decide (nI 0 ≤ nI k) = true from decide_eq_true (nI_le (Nat.zero_le k) hk), Bool.true_and]
  exact decide_eq_decide.mpr (nI_leI hk hn)
theorem p7_lt {L : Nat} (h : L ≤ 4) : 7 ^ L < 2 ^ 31 := Nat.lt_of_le_of_lt (Nat.pow_le_pow_right (by decide) h) (by decide)
theorem p7_le {L : Nat} (h : L ≤ 4) : 7 ^ L ≤ 2401 := Nat.le_trans (Nat.pow_le_pow_right (by decide) h) (by decide)
theorem p7_ne {L : Nat} (h : L ≤ 4) : ¬ nI (7 ^ L) = 0 := nI_ne0 (Nat.pow_pos (by decide)) (p7_lt h)
def jn (a b : Bool) (w : Nat) : Bool := match w with
  | 0 => a || b
  | 1 => a && b
  | 2 => a && !b
  | _ => a != b
def ab (x : Int32) : Int32 := if 0 ≤ x then x else 0 - x
def mx (x y : Int32) : Int32 := if x < y then y else x
theorem neg_eq (x : Int32) : -x = 0 - x := by
  apply Int32.toBitVec_inj.mp
  simp
def vAt (f : Nat → Int32) (N : Nat) (x : Int32) : Int32 := if 0 ≤ x ∧ x < nI N then f x.toNatClampNeg else -6
theorem vAt_in {f : Nat → Int32} {N i : Nat} (h : i < N) (hN : N < 2 ^ 31) : vAt f N (nI i) = f i := by
  unfold vAt
  rw [if_pos ⟨nI_pos' (Nat.lt_trans h hN), nI_lt h hN⟩, nI_clamp (Nat.lt_trans h hN)]
theorem vAt_neg {f : Nat → Int32} {N : Nat} {x : Int32} (h : x < 0) : vAt f N x = -6 := by
  unfold vAt
  rw [if_neg (fun q => absurd q.1 (Int32.not_le.mpr h))]
theorem vAt_big {f : Nat → Int32} {N i : Nat} (h : N ≤ i) (hi : i < 2 ^ 31) : vAt f N (nI i) = -6 := by
  unfold vAt
  rw [if_neg (fun q => absurd q.2 (nI_nlt h hi))]
theorem TB_hb {a N : Nat} {f : Nat → Int32} : HB (fun U => va_T .int a N (fun j => .int (f j)) (fun _ => False) U U.heap) := by
  intro U V hh hv h
  have ha : U.vm.Alike V.vm := by rw [hv]; exact Vm.Alike.refl _
  show va_T .int a N (fun j => .int (f j)) (fun _ => False) V V.heap
  rw [← hh]
  exact va_T.moved ha h
theorem TB_P {D : va_G} {cI cZ : ClassId} {s : State} {H : Heap} {ws : va_W} {a n : Nat} {f : Nat → Int32} (hK : KK D cI cZ s) (hP : va_P D vwCl ws H) (q0 : Nat) (ha : ws[q0]? = some (a, .inl (cI, n, .inl f))) (hn : n < 2 ^ 31) : ∀ U : State, U.heap = H → s.WarmedH U.vm → va_T .int a n (fun j => .int (f j)) (fun _ => False) U U.heap := by
  intro U hU hW
  have h1 : H[a]? = some (vp_cell cI (n, .inl f)) := hP q0 _ ha
  rw [hU]
  refine va_T.moved hW.alike ⟨_, h1, (hK.2 0 _ rfl).1 n (fun j => .int (f j)), (fun q => by cases q), ?_, ?_, ?_, fun q => q⟩
  · show n ≤ (arrV cI n (fun j => .int (f j))).slots.size
    rw [arrV_size]
    exact Nat.le_refl n
  · show (arrV cI n (fun j => .int (f j))).slots.size.toInt32 = Int32.ofNat n
    rw [arrV_size]
  · intro j hj
    show (arrV cI n (fun j => .int (f j))).slots[j]? = some (.int (f j))
    rw [arrV_read _ _ hj]
theorem TB_T {t N : Nat} {f : Nat → Int32} {A : Nat → Prop} {s : State} {H : Heap} {locs : List Loc} (hT : va_T .int t N (fun j => .int (f j)) A s s.heap) (hS : va_S A s.heap H locs) : ∀ U : State, U.heap = H → s.WarmedH U.vm → va_T .int t N (fun j => .int (f j)) (fun _ => False) U U.heap := by
  intro U hU hW
  rw [hU]
  exact va_T.moved hW.alike ((hT.kept hS.2.1).narrow (fun _ h => h.elim))
theorem nf_X1_valueAt : nfOk yX1_valueAt 2 := by unfold nfOk; decide +kernel
set_option maxHeartbeats 4000000 in
set_option maxRecDepth 100000 in
theorem c_X1_valueAt (l : Launch) (a N : Nat) (f : Nat → Int32) (x : Int32) (hN : N < 2 ^ 31) : Rd l yX1_valueAt wsX1_valueAt ({ frames := 0, cells := 0, slots := 0, locals := 0 }) [.ref a, .int x] (fun U => va_T .int a N (fun j => .int (f j)) (fun _ => False) U U.heap) (vAt f N x) := by
  refine met_in RX1 (by decide) rfl rfl (Nat.le_of_ble_eq_true rfl) ?_
  intro p e s m below meth c ls S hr hlocks hl hB
  have hx := S.1
  have hb := S.2.1
  have hl : lv_has ls 2 [(0, .ref a), (1, .int x)] := hl
  have hS : va_S (fun _ => False) s.heap s.heap [] := va_S.rf
  refine lv_iconst (v := nI 0) hx hb dX1_valueAt_0 (by decide) ?_
  refine lv_iload_n hx hb dX1_valueAt_1 rfl (lv_at hl 1 rfl) ?_
  refine lv_icmp_gt (tgt := 17) hx hb dX1_valueAt_2 (by decide) (fun c_2 => ?_) (fun c_2 => ?_)
  · refine lv_bipush (v := (-6)) hx hb dX1_valueAt_17 (by decide) ?_
    exact ret_i hx hb hr hlocks dX1_valueAt_19 (vAt_neg c_2).symm
  · refine lv_iload_n hx hb dX1_valueAt_5 rfl (lv_at hl 1 rfl) ?_
    refine lv_aload_n hx hb dX1_valueAt_6 rfl (lv_at hl 0 rfl) ?_
    refine va_tlen hx hb hB hS (v := nI N) rfl dX1_valueAt_7 ?_
    refine lv_icmp_ge (tgt := 17) hx hb dX1_valueAt_8 (by decide) (fun c_8 => ?_) (fun c_8 => ?_)
    · refine lv_bipush (v := (-6)) hx hb dX1_valueAt_17 (by decide) ?_
      exact ret_i hx hb hr hlocks dX1_valueAt_19 (by unfold vAt; rw [if_neg (fun q => absurd q.2 (Int32.not_lt.mpr c_8))])
    · obtain ⟨j, hj, rfl⟩ := nI_of c_2
      have hjN : j < N := by
        rcases Nat.lt_or_ge j N with q | q
        · exact q
        · exact absurd (nI_le q hj) c_8
      refine lv_aload_n hx hb dX1_valueAt_11 rfl (lv_at hl 0 rfl) ?_
      refine lv_iload_n hx hb dX1_valueAt_12 rfl (lv_at hl 1 rfl) ?_
      refine va_ti hx hb hB hS (vp_in_nI hjN hN) rfl dX1_valueAt_13 ?_
      refine lv_goto (tgt := 19) hx hb dX1_valueAt_14 (by decide) ?_
      exact ret_i hx hb hr hlocks dX1_valueAt_19 (by rw [vAt_in hjN hN, nI_clamp hj])
end
section
theorem nf_X1_within : nfOk yX1_within 3 := by unfold nfOk; decide +kernel
set_option maxHeartbeats 4000000 in
set_option maxRecDepth 100000 in
theorem c_X1_within (l : Launch) (x : Int32) (lo : Int32) (hi : Int32) : Rd l yX1_within wsX1_within ({ frames := 0, cells := 0, slots := 0, locals := 0 }) [.int x, .int lo, .int hi] (fun _ => True) (bI (wI x lo hi)) := by
  refine met_in RX1 (by decide) rfl rfl (Nat.le_of_ble_eq_true rfl) ?_
  intro p e s m below meth c ls S hr hlocks hl hB
  have hx := S.1
  have hb := S.2.1
  have hml := S.2.2.1
  have hown := S.2.2.2.1
  have hts := S.2.2.2.2
  have hl : lv_has ls 3 [(0, .int x), (1, .int lo), (2, .int hi)] := hl
  refine lv_iload_n hx hb dX1_within_0 rfl (lv_at hl 1 rfl) ?_
  refine lv_iload_n hx hb dX1_within_1 rfl (lv_at hl 0 rfl) ?_
  refine lv_icmp_gt (tgt := 14) hx hb dX1_within_2 (by decide) (fun c_2 => ?_) (fun c_2 => ?_)
  ·
    refine lv_iconst (v := nI 0) hx hb dX1_within_14 (by decide) ?_
    exact ret_z hx hb hr hlocks dX1_within_15 (by first | exact (wI_t (by first | exact Int32.not_lt.mp c_2 | assumption) (by first | exact Int32.not_lt.mp c_7 | assumption)).symm | exact (wI_fl c_2).symm | exact (wI_fg c_7).symm)
  ·
    refine lv_iload_n hx hb dX1_within_5 rfl (lv_at hl 0 rfl) ?_
    refine lv_iload_n hx hb dX1_within_6 rfl (lv_at hl 2 rfl) ?_
    refine lv_icmp_gt (tgt := 14) hx hb dX1_within_7 (by decide) (fun c_7 => ?_) (fun c_7 => ?_)
    ·
      refine lv_iconst (v := nI 0) hx hb dX1_within_14 (by decide) ?_
      exact ret_z hx hb hr hlocks dX1_within_15 (by first | exact (wI_t (by first | exact Int32.not_lt.mp c_2 | assumption) (by first | exact Int32.not_lt.mp c_7 | assumption)).symm | exact (wI_fl c_2).symm | exact (wI_fg c_7).symm)
    ·
      refine lv_iconst (v := nI 1) hx hb dX1_within_10 (by decide) ?_
      refine lv_goto (tgt := 15) hx hb dX1_within_11 (by decide) ?_
      exact ret_z hx hb hr hlocks dX1_within_15 (by first | exact (wI_t (by first | exact Int32.not_lt.mp c_2 | assumption) (by first | exact Int32.not_lt.mp c_7 | assumption)).symm | exact (wI_fl c_2).symm | exact (wI_fg c_7).symm)
theorem nf_X1_isKey : nfOk yX1_isKey 1 := by unfold nfOk; decide +kernel
set_option maxHeartbeats 4000000 in
set_option maxRecDepth 100000 in
theorem c_X1_isKey (l : Launch) (x : Int32) : Rd l yX1_isKey wsX1_isKey ({ frames := 1, cells := 0, slots := 0, locals := 22 }) [.int x] (fun _ => True) (bI (wI x (nI 0) (nI 2400))) := by
  refine met_in RX1 (by decide) rfl rfl (Nat.le_of_ble_eq_true rfl) ?_
  intro p e s m below meth c ls S hr hlocks hl hB
  have hx := S.1
  have hb := S.2.1
  have hml := S.2.2.1
  have hown := S.2.2.2.1
  have hts := S.2.2.2.2
  have hl : lv_has ls 1 [(0, .int x)] := hl
  refine lv_iload_n hx hb dX1_isKey_0 rfl (lv_at hl 0 rfl) ?_
  refine lv_iconst (v := nI 0) hx hb dX1_isKey_1 (by decide) ?_
  refine lv_sipush (v := nI 2400) hx hb dX1_isKey_2 (by decide) ?_
  refine rd_S S hl (c_X1_within l x (nI 0) (nI 2400)) HB.tt gX1_isKey_X1_within rfl nf_X1_within rfl rfl dX1_isKey_5  (fun _ _ _ => trivial) ?_
  exact ret_z hx hb hr hlocks dX1_isKey_8 (by rfl)
theorem nf_X1_isLevel : nfOk yX1_isLevel 1 := by unfold nfOk; decide +kernel
set_option maxHeartbeats 4000000 in
set_option maxRecDepth 100000 in
theorem c_X1_isLevel (l : Launch) (x : Int32) : Rd l yX1_isLevel wsX1_isLevel ({ frames := 1, cells := 0, slots := 0, locals := 22 }) [.int x] (fun _ => True) (bI (wI x (nI 0) (nI 4))) := by
  refine met_in RX1 (by decide) rfl rfl (Nat.le_of_ble_eq_true rfl) ?_
  intro p e s m below meth c ls S hr hlocks hl hB
  have hx := S.1
  have hb := S.2.1
  have hml := S.2.2.1
  have hown := S.2.2.2.1
  have hts := S.2.2.2.2
  have hl : lv_has ls 1 [(0, .int x)] := hl
  refine lv_iload_n hx hb dX1_isLevel_0 rfl (lv_at hl 0 rfl) ?_
  refine lv_iconst (v := nI 0) hx hb dX1_isLevel_1 (by decide) ?_
  refine lv_iconst (v := nI 4) hx hb dX1_isLevel_2 (by decide) ?_
  refine rd_S S hl (c_X1_within l x (nI 0) (nI 4)) HB.tt gX1_isLevel_X1_within rfl nf_X1_within rfl rfl dX1_isLevel_3  (fun _ _ _ => trivial) ?_
  exact ret_z hx hb hr hlocks dX1_isLevel_6 (by rfl)
theorem nf_X1_isSlot : nfOk yX1_isSlot 1 := by unfold nfOk; decide +kernel
set_option maxHeartbeats 4000000 in
set_option maxRecDepth 100000 in
theorem c_X1_isSlot (l : Launch) (x : Int32) : Rd l yX1_isSlot wsX1_isSlot ({ frames := 1, cells := 0, slots := 0, locals := 22 }) [.int x] (fun _ => True) (bI (wI x (nI 0) (nI 3))) := by
  refine met_in RX1 (by decide) rfl rfl (Nat.le_of_ble_eq_true rfl) ?_
  intro p e s m below meth c ls S hr hlocks hl hB
  have hx := S.1
  have hb := S.2.1
  have hml := S.2.2.1
  have hown := S.2.2.2.1
  have hts := S.2.2.2.2
  have hl : lv_has ls 1 [(0, .int x)] := hl
  refine lv_iload_n hx hb dX1_isSlot_0 rfl (lv_at hl 0 rfl) ?_
  refine lv_iconst (v := nI 0) hx hb dX1_isSlot_1 (by decide) ?_
  refine lv_iconst (v := nI 3) hx hb dX1_isSlot_2 (by decide) ?_
  refine rd_S S hl (c_X1_within l x (nI 0) (nI 3)) HB.tt gX1_isSlot_X1_within rfl nf_X1_within rfl rfl dX1_isSlot_3  (fun _ _ _ => trivial) ?_
  exact ret_z hx hb hr hlocks dX1_isSlot_6 (by rfl)
theorem nf_X1_patchSize : nfOk yX1_patchSize 1 := by unfold nfOk; decide +kernel
set_option maxHeartbeats 4000000 in
set_option maxRecDepth 100000 in
theorem c_X1_patchSize (l : Launch) (L : Nat) (hL : L ≤ 4) : Rd l yX1_patchSize wsX1_patchSize ({ frames := 0, cells := 0, slots := 0, locals := 0 }) [.int (nI L)] (fun _ => True) (nI (7 ^ L)) := by
  refine met_in RX1 (by decide) rfl rfl (Nat.le_of_ble_eq_true rfl) ?_
  intro p e s m below meth c ls S hr hlocks hl hB
  have hx := S.1
  have hb := S.2.1
  have hml := S.2.2.1
  have hown := S.2.2.2.1
  have hts := S.2.2.2.2
  have hl : lv_has ls 3 [(0, .int (nI L))] := hl
  refine lv_iconst (v := nI 1) hx hb dX1_patchSize_0 (by decide) ?_
  refine lv_istore_n (lv' := [(1, .int (nI 1)), (0, .int (nI L))]) hx hb dX1_patchSize_1 rfl hl (by decide) rfl (fun ls hl => ?_)
  refine lv_iconst (v := nI 0) hx hb dX1_patchSize_2 (by decide) ?_
  refine lv_istore_n (lv' := [(2, .int (nI 0)), (1, .int (nI 1)), (0, .int (nI L))]) hx hb dX1_patchSize_3 rfl hl (by decide) rfl (fun ls hl => ?_)
  have loop_4 : ∀ (n : Nat) (i : Nat), (i ≤ L) → L - i < n → ∀ (x1 x2 : Int32), x1 = nI (7 ^ i) → x2 = nI i → ∀ ls : Array Slot, lv_has ls 3 [(0, .int (nI L)), (1, .int x1), (2, .int x2)] → W p l e (headSpec wsX1_patchSize ({ frames := 0, cells := 0, slots := 0, locals := 0 })).room s m [.int (nI L)].toArray below meth c s.heap [] 0 0 (MQ below (vp_Si (fun r => r = nI (7 ^ L))) [.int (nI L)].toArray s 0 0 (fun _ => False)) (F0 m 4 ls []) := by
    intro n
    induction n with
    | zero => intro i hi hm; exact absurd hm (Nat.not_lt_zero _)
    | succ n ih_4 =>
      intro i hi hm_4 x1 x2 e1 e2 ls hl
      subst e1
      subst e2
      refine lv_iload_n hx hb dX1_patchSize_4 rfl (lv_at hl 2 rfl) ?_
      refine lv_iload_n hx hb dX1_patchSize_5 rfl (lv_at hl 0 rfl) ?_
      refine nv_icmp_ge (tgt := 20) hx hb dX1_patchSize_6 (by decide) (by omega) (by omega) (fun c_6 => ?_) (fun c_6 => ?_)
      ·
        have hLi : L = i := by omega
        subst hLi
        refine lv_iload_n hx hb dX1_patchSize_20 rfl (lv_at hl 1 rfl) ?_
        exact ret_i hx hb hr hlocks dX1_patchSize_21 (by rfl)
      ·
        refine lv_iload_n hx hb dX1_patchSize_9 rfl (lv_at hl 1 rfl) ?_
        refine lv_bipush (v := nI 7) hx hb dX1_patchSize_10 (by decide) ?_
        refine lv_imul hx hb dX1_patchSize_12 ?_
        refine nv_as (nI ((7 ^ i) * 7)) (pk_mul _ _) ?_
        refine lv_istore_n (lv' := [(1, .int (nI ((7 ^ i) * 7))), (0, .int (nI L)), (2, .int (nI i))]) hx hb dX1_patchSize_13 rfl hl (by decide) rfl (fun ls hl => ?_)
        refine lv_iinc (v := nI (i + 1)) (lv' := [(2, .int (nI (i + 1))), (1, .int (nI ((7 ^ i) * 7))), (0, .int (nI L))]) hx hb dX1_patchSize_14 hl (k := 2) rfl (inc_nI _) (by decide) rfl (fun ls hl => ?_)
        refine lv_goto (tgt := 4) hx hb dX1_patchSize_17 (by decide) ?_
        exact ih_4 (i + 1) (by omega) (by omega) _ _ (by first | rfl | exact congrArg nI (by omega)) (by first | rfl | exact congrArg nI (by omega)) _ (lv_sub hl [2, 1, 0] rfl)
  exact loop_4 (L - 0 + 1) 0 (by omega) (Nat.lt_succ_self _) _ _ (by first | rfl | exact congrArg nI (by omega)) rfl _ (lv_sub hl [2, 1, 0] rfl)
theorem nf_X1_patchOf : nfOk yX1_patchOf 2 := by unfold nfOk; decide +kernel
set_option maxHeartbeats 4000000 in
set_option maxRecDepth 100000 in
theorem c_X1_patchOf (l : Launch) (k : Nat) (L : Nat) (hk : k < 2 ^ 31) (hL : L ≤ 4) : Rd l yX1_patchOf wsX1_patchOf ({ frames := 1, cells := 0, slots := 0, locals := 22 }) [.int (nI k), .int (nI L)] (fun _ => True) (nI (k / 7 ^ L * 7 ^ L)) := by
  refine met_in RX1 (by decide) rfl rfl (Nat.le_of_ble_eq_true rfl) ?_
  intro p e s m below meth c ls S hr hlocks hl hB
  have hx := S.1
  have hb := S.2.1
  have hml := S.2.2.1
  have hown := S.2.2.2.1
  have hts := S.2.2.2.2
  have hl : lv_has ls 4 [(0, .int (nI k)), (1, .int (nI L))] := hl
  refine lv_iload_n hx hb dX1_patchOf_0 rfl (lv_at hl 0 rfl) ?_
  refine lv_istore_n (lv' := [(2, .int (nI k)), (0, .int (nI k)), (1, .int (nI L))]) hx hb dX1_patchOf_1 rfl hl (by decide) rfl (fun ls hl => ?_)
  refine lv_iconst (v := nI 0) hx hb dX1_patchOf_2 (by decide) ?_
  refine lv_istore_n (lv' := [(3, .int (nI 0)), (2, .int (nI k)), (0, .int (nI k)), (1, .int (nI L))]) hx hb dX1_patchOf_3 rfl hl (by decide) rfl (fun ls hl => ?_)
  have loop_4 : ∀ (n : Nat) (i : Nat), (i ≤ L) → L - i < n → ∀ (x2 x3 : Int32), x2 = nI (k / 7 ^ i) → x3 = nI i → ∀ ls : Array Slot, lv_has ls 4 [(0, .int (nI k)), (1, .int (nI L)), (2, .int x2), (3, .int x3)] → W p l e (headSpec wsX1_patchOf ({ frames := 1, cells := 0, slots := 0, locals := 22 })).room s m [.int (nI k), .int (nI L)].toArray below meth c s.heap [] 0 0 (MQ below (vp_Si (fun r => r = nI (k / 7 ^ L * 7 ^ L))) [.int (nI k), .int (nI L)].toArray s 0 0 (fun _ => False)) (F0 m 4 ls []) := by
    intro n
    induction n with
    | zero => intro i hi hm; exact absurd hm (Nat.not_lt_zero _)
    | succ n ih_4 =>
      intro i hi hm_4 x2 x3 e2 e3 ls hl
      subst e2
      subst e3
      refine lv_iload_n hx hb dX1_patchOf_4 rfl (lv_at hl 3 rfl) ?_
      refine lv_iload_n hx hb dX1_patchOf_5 rfl (lv_at hl 1 rfl) ?_
      refine nv_icmp_ge (tgt := 20) hx hb dX1_patchOf_6 (by decide) (by omega) (by omega) (fun c_6 => ?_) (fun c_6 => ?_)
      ·
        have hLi : L = i := by omega
        subst hLi
        refine lv_iload_n hx hb dX1_patchOf_20 rfl (lv_at hl 2 rfl) ?_
        refine lv_iload_n hx hb dX1_patchOf_21 rfl (lv_at hl 1 rfl) ?_
        refine rd_S S hl (c_X1_patchSize l L (by omega)) HB.tt gX1_patchOf_X1_patchSize rfl nf_X1_patchSize rfl rfl dX1_patchOf_22  (fun _ _ _ => trivial) ?_
        refine lv_imul hx hb dX1_patchOf_25 ?_
        refine nv_as (nI ((k / 7 ^ L) * (7 ^ L))) (pk_mul _ _) ?_
        exact ret_i hx hb hr hlocks dX1_patchOf_26 (by rfl)
      ·
        refine lv_iload_n hx hb dX1_patchOf_9 rfl (lv_at hl 2 rfl) ?_
        refine lv_bipush (v := nI 7) hx hb dX1_patchOf_10 (by decide) ?_
        have hq : k / 7 ^ i ≤ k := Nat.div_le_self _ _
        refine lv_idiv hx hb dX1_patchOf_12 (by decide) ?_
        refine nv_as (nI ((k / 7 ^ i) / 7)) (pk_div (by omega) (by omega) (by omega)) ?_
        refine lv_istore_n (lv' := [(2, .int (nI ((k / 7 ^ i) / 7))), (0, .int (nI k)), (1, .int (nI L)), (3, .int (nI i))]) hx hb dX1_patchOf_13 rfl hl (by decide) rfl (fun ls hl => ?_)
        refine lv_iinc (v := nI (i + 1)) (lv' := [(3, .int (nI (i + 1))), (2, .int (nI ((k / 7 ^ i) / 7))), (0, .int (nI k)), (1, .int (nI L))]) hx hb dX1_patchOf_14 hl (k := 3) rfl (inc_nI _) (by decide) rfl (fun ls hl => ?_)
        refine lv_goto (tgt := 4) hx hb dX1_patchOf_17 (by decide) ?_
        exact ih_4 (i + 1) (by omega) (by omega) _ _ (by rw [Nat.div_div_eq_div_mul, ← Nat.pow_succ]) (by first | rfl | exact congrArg nI (by omega)) _ (lv_sub hl [2, 3, 1, 0] rfl)
  exact loop_4 (L - 0 + 1) 0 (by omega) (Nat.lt_succ_self _) _ _ (by rw [Nat.pow_zero, Nat.div_one]) rfl _ (lv_sub hl [2, 3, 1, 0] rfl)
theorem nf_X1_joined : nfOk yX1_joined 3 := by unfold nfOk; decide +kernel
set_option maxHeartbeats 4000000 in
set_option maxRecDepth 100000 in
theorem c_X1_joined (l : Launch) (a : Bool) (b : Bool) (w : Nat) (hw : w < 4) : Rd l yX1_joined wsX1_joined ({ frames := 0, cells := 0, slots := 0, locals := 0 }) [.int (bI a), .int (bI b), .int (nI w)] (fun _ => True) (bI (jn a b w)) := by
  refine met_in RX1 (by decide) rfl rfl (Nat.le_of_ble_eq_true rfl) ?_
  intro p e s m below meth c ls S hr hlocks hl hB
  have hx := S.1
  have hb := S.2.1
  have hml := S.2.2.1
  have hown := S.2.2.2.1
  have hts := S.2.2.2.2
  have hl : lv_has ls 3 [(0, .int (bI a)), (1, .int (bI b)), (2, .int (nI w))] := hl
  refine lv_iload_n hx hb dX1_joined_0 rfl (lv_at hl 2 rfl) ?_
  rcases (show w = 0 ∨ w = 1 ∨ w = 2 ∨ w = 3 by omega) with rfl | rfl | rfl | rfl
  ·
    refine lv_tableIn (off := 27) (tgt := 28) hx hb dX1_joined_1 (by decide) (by decide) (by decide) (by decide) ?_
    refine lv_iload_n hx hb dX1_joined_28 rfl (lv_at hl 0 rfl) ?_
    refine nv_ifz_ne (tgt := 36) hx hb dX1_joined_29 (by decide) (fun c_29 => ?_) (fun c_29 => ?_)
    ·
      refine lv_iconst (v := nI 1) hx hb dX1_joined_36 (by decide) ?_
      refine lv_goto (tgt := 41) hx hb dX1_joined_37 (by decide) ?_
      exact ret_z hx hb hr hlocks dX1_joined_41 (by cases a <;> cases b <;> first | rfl | contradiction | exact absurd c_72 (by decide))
    ·
      refine lv_iload_n hx hb dX1_joined_32 rfl (lv_at hl 1 rfl) ?_
      refine nv_ifz_eq (tgt := 40) hx hb dX1_joined_33 (by decide) (fun c_33 => ?_) (fun c_33 => ?_)
      ·
        refine lv_iconst (v := nI 0) hx hb dX1_joined_40 (by decide) ?_
        exact ret_z hx hb hr hlocks dX1_joined_41 (by cases a <;> cases b <;> first | rfl | contradiction | exact absurd c_72 (by decide))
      ·
        refine lv_iconst (v := nI 1) hx hb dX1_joined_36 (by decide) ?_
        refine lv_goto (tgt := 41) hx hb dX1_joined_37 (by decide) ?_
        exact ret_z hx hb hr hlocks dX1_joined_41 (by cases a <;> cases b <;> first | rfl | contradiction | exact absurd c_72 (by decide))
  ·
    refine lv_tableIn (off := 41) (tgt := 42) hx hb dX1_joined_1 (by decide) (by decide) (by decide) (by decide) ?_
    refine lv_iload_n hx hb dX1_joined_42 rfl (lv_at hl 0 rfl) ?_
    refine nv_ifz_eq (tgt := 54) hx hb dX1_joined_43 (by decide) (fun c_43 => ?_) (fun c_43 => ?_)
    ·
      refine lv_iconst (v := nI 0) hx hb dX1_joined_54 (by decide) ?_
      exact ret_z hx hb hr hlocks dX1_joined_55 (by cases a <;> cases b <;> first | rfl | contradiction | exact absurd c_72 (by decide))
    ·
      refine lv_iload_n hx hb dX1_joined_46 rfl (lv_at hl 1 rfl) ?_
      refine nv_ifz_eq (tgt := 54) hx hb dX1_joined_47 (by decide) (fun c_47 => ?_) (fun c_47 => ?_)
      ·
        refine lv_iconst (v := nI 0) hx hb dX1_joined_54 (by decide) ?_
        exact ret_z hx hb hr hlocks dX1_joined_55 (by cases a <;> cases b <;> first | rfl | contradiction | exact absurd c_72 (by decide))
      ·
        refine lv_iconst (v := nI 1) hx hb dX1_joined_50 (by decide) ?_
        refine lv_goto (tgt := 55) hx hb dX1_joined_51 (by decide) ?_
        exact ret_z hx hb hr hlocks dX1_joined_55 (by cases a <;> cases b <;> first | rfl | contradiction | exact absurd c_72 (by decide))
  ·
    refine lv_tableIn (off := 55) (tgt := 56) hx hb dX1_joined_1 (by decide) (by decide) (by decide) (by decide) ?_
    refine lv_iload_n hx hb dX1_joined_56 rfl (lv_at hl 0 rfl) ?_
    refine nv_ifz_eq (tgt := 68) hx hb dX1_joined_57 (by decide) (fun c_57 => ?_) (fun c_57 => ?_)
    ·
      refine lv_iconst (v := nI 0) hx hb dX1_joined_68 (by decide) ?_
      exact ret_z hx hb hr hlocks dX1_joined_69 (by cases a <;> cases b <;> first | rfl | contradiction | exact absurd c_72 (by decide))
    ·
      refine lv_iload_n hx hb dX1_joined_60 rfl (lv_at hl 1 rfl) ?_
      refine nv_ifz_ne (tgt := 68) hx hb dX1_joined_61 (by decide) (fun c_61 => ?_) (fun c_61 => ?_)
      ·
        refine lv_iconst (v := nI 0) hx hb dX1_joined_68 (by decide) ?_
        exact ret_z hx hb hr hlocks dX1_joined_69 (by cases a <;> cases b <;> first | rfl | contradiction | exact absurd c_72 (by decide))
      ·
        refine lv_iconst (v := nI 1) hx hb dX1_joined_64 (by decide) ?_
        refine lv_goto (tgt := 69) hx hb dX1_joined_65 (by decide) ?_
        exact ret_z hx hb hr hlocks dX1_joined_69 (by cases a <;> cases b <;> first | rfl | contradiction | exact absurd c_72 (by decide))
  ·
    refine lv_tableOut (tgt := 70) hx hb dX1_joined_1 (Or.inr (by decide)) (by decide) ?_
    refine lv_iload_n hx hb dX1_joined_70 rfl (lv_at hl 0 rfl) ?_
    refine lv_iload_n hx hb dX1_joined_71 rfl (lv_at hl 1 rfl) ?_
    refine lv_icmp_eq (tgt := 79) hx hb dX1_joined_72 (by decide) (fun c_72 => ?_) (fun c_72 => ?_)
    ·
      refine lv_iconst (v := nI 0) hx hb dX1_joined_79 (by decide) ?_
      exact ret_z hx hb hr hlocks dX1_joined_80 (by cases a <;> cases b <;> first | rfl | contradiction | exact absurd c_72 (by decide))
    ·
      refine lv_iconst (v := nI 1) hx hb dX1_joined_75 (by decide) ?_
      refine lv_goto (tgt := 80) hx hb dX1_joined_76 (by decide) ?_
      exact ret_z hx hb hr hlocks dX1_joined_80 (by cases a <;> cases b <;> first | rfl | contradiction | exact absurd c_72 (by decide))
theorem nf_X1_imageShift : nfOk yX1_imageShift 1 := by unfold nfOk; decide +kernel
set_option maxHeartbeats 4000000 in
set_option maxRecDepth 100000 in
theorem c_X1_imageShift (l : Launch) (k : Nat) : Rd l yX1_imageShift wsX1_imageShift ({ frames := 0, cells := 0, slots := 0, locals := 0 }) [.int (nI k)] (fun _ => True) (nI (4 * (k + 1))) := by
  refine met_in RX1 (by decide) rfl rfl (Nat.le_of_ble_eq_true rfl) ?_
  intro p e s m below meth c ls S hr hlocks hl hB
  have hx := S.1
  have hb := S.2.1
  have hml := S.2.2.1
  have hown := S.2.2.2.1
  have hts := S.2.2.2.2
  have hl : lv_has ls 1 [(0, .int (nI k))] := hl
  refine lv_iconst (v := nI 4) hx hb dX1_imageShift_0 (by decide) ?_
  refine lv_iload_n hx hb dX1_imageShift_1 rfl (lv_at hl 0 rfl) ?_
  refine lv_iconst (v := nI 1) hx hb dX1_imageShift_2 (by decide) ?_
  refine lv_iadd hx hb dX1_imageShift_3 ?_
  refine nv_as (nI (k + 1)) (nI_add _ _) ?_
  refine lv_imul hx hb dX1_imageShift_4 ?_
  refine nv_as (nI (4 * (k + 1))) (pk_mul _ _) ?_
  exact ret_i hx hb hr hlocks dX1_imageShift_5 (by rfl)
theorem nf_X2_in : nfOk yX2_in 3 := by unfold nfOk; decide +kernel
set_option maxHeartbeats 4000000 in
set_option maxRecDepth 100000 in
theorem c_X2_in (l : Launch) (x : Int32) (lo : Int32) (hi : Int32) : Rd l yX2_in wsX2_in ({ frames := 0, cells := 0, slots := 0, locals := 0 }) [.int x, .int lo, .int hi] (fun _ => True) (bI (wI x lo hi)) := by
  refine met_in RX2 (by decide) rfl rfl (Nat.le_of_ble_eq_true rfl) ?_
  intro p e s m below meth c ls S hr hlocks hl hB
  have hx := S.1
  have hb := S.2.1
  have hml := S.2.2.1
  have hown := S.2.2.2.1
  have hts := S.2.2.2.2
  have hl : lv_has ls 3 [(0, .int x), (1, .int lo), (2, .int hi)] := hl
  refine lv_iload_n hx hb dX2_in_0 rfl (lv_at hl 0 rfl) ?_
  refine lv_iload_n hx hb dX2_in_1 rfl (lv_at hl 1 rfl) ?_
  refine lv_icmp_lt (tgt := 14) hx hb dX2_in_2 (by decide) (fun c_2 => ?_) (fun c_2 => ?_)
  ·
    refine lv_iconst (v := nI 0) hx hb dX2_in_14 (by decide) ?_
    exact ret_z hx hb hr hlocks dX2_in_15 (by first | exact (wI_t (by first | exact Int32.not_lt.mp c_2 | assumption) (by first | exact Int32.not_lt.mp c_7 | assumption)).symm | exact (wI_fl c_2).symm | exact (wI_fg c_7).symm)
  ·
    refine lv_iload_n hx hb dX2_in_5 rfl (lv_at hl 0 rfl) ?_
    refine lv_iload_n hx hb dX2_in_6 rfl (lv_at hl 2 rfl) ?_
    refine lv_icmp_gt (tgt := 14) hx hb dX2_in_7 (by decide) (fun c_7 => ?_) (fun c_7 => ?_)
    ·
      refine lv_iconst (v := nI 0) hx hb dX2_in_14 (by decide) ?_
      exact ret_z hx hb hr hlocks dX2_in_15 (by first | exact (wI_t (by first | exact Int32.not_lt.mp c_2 | assumption) (by first | exact Int32.not_lt.mp c_7 | assumption)).symm | exact (wI_fl c_2).symm | exact (wI_fg c_7).symm)
    ·
      refine lv_iconst (v := nI 1) hx hb dX2_in_10 (by decide) ?_
      refine lv_goto (tgt := 15) hx hb dX2_in_11 (by decide) ?_
      exact ret_z hx hb hr hlocks dX2_in_15 (by first | exact (wI_t (by first | exact Int32.not_lt.mp c_2 | assumption) (by first | exact Int32.not_lt.mp c_7 | assumption)).symm | exact (wI_fl c_2).symm | exact (wI_fg c_7).symm)
theorem nf_X2_isKey : nfOk yX2_isKey 1 := by unfold nfOk; decide +kernel
set_option maxHeartbeats 4000000 in
set_option maxRecDepth 100000 in
theorem c_X2_isKey (l : Launch) (x : Int32) : Rd l yX2_isKey wsX2_isKey ({ frames := 1, cells := 0, slots := 0, locals := 22 }) [.int x] (fun _ => True) (bI (wI x (nI 0) (nI 2400))) := by
  refine met_in RX2 (by decide) rfl rfl (Nat.le_of_ble_eq_true rfl) ?_
  intro p e s m below meth c ls S hr hlocks hl hB
  have hx := S.1
  have hb := S.2.1
  have hml := S.2.2.1
  have hown := S.2.2.2.1
  have hts := S.2.2.2.2
  have hl : lv_has ls 1 [(0, .int x)] := hl
  refine lv_iload_n hx hb dX2_isKey_0 rfl (lv_at hl 0 rfl) ?_
  refine lv_iconst (v := nI 0) hx hb dX2_isKey_1 (by decide) ?_
  refine lv_sipush (v := nI 2400) hx hb dX2_isKey_2 (by decide) ?_
  refine rd_S S hl (c_X2_in l x (nI 0) (nI 2400)) HB.tt gX2_isKey_X2_in rfl nf_X2_in rfl rfl dX2_isKey_5  (fun _ _ _ => trivial) ?_
  exact ret_z hx hb hr hlocks dX2_isKey_8 (by rfl)
theorem nf_X2_isLevel : nfOk yX2_isLevel 1 := by unfold nfOk; decide +kernel
set_option maxHeartbeats 4000000 in
set_option maxRecDepth 100000 in
theorem c_X2_isLevel (l : Launch) (x : Int32) : Rd l yX2_isLevel wsX2_isLevel ({ frames := 1, cells := 0, slots := 0, locals := 22 }) [.int x] (fun _ => True) (bI (wI x (nI 0) (nI 4))) := by
  refine met_in RX2 (by decide) rfl rfl (Nat.le_of_ble_eq_true rfl) ?_
  intro p e s m below meth c ls S hr hlocks hl hB
  have hx := S.1
  have hb := S.2.1
  have hml := S.2.2.1
  have hown := S.2.2.2.1
  have hts := S.2.2.2.2
  have hl : lv_has ls 1 [(0, .int x)] := hl
  refine lv_iload_n hx hb dX2_isLevel_0 rfl (lv_at hl 0 rfl) ?_
  refine lv_iconst (v := nI 0) hx hb dX2_isLevel_1 (by decide) ?_
  refine lv_iconst (v := nI 4) hx hb dX2_isLevel_2 (by decide) ?_
  refine rd_S S hl (c_X2_in l x (nI 0) (nI 4)) HB.tt gX2_isLevel_X2_in rfl nf_X2_in rfl rfl dX2_isLevel_3  (fun _ _ _ => trivial) ?_
  exact ret_z hx hb hr hlocks dX2_isLevel_6 (by rfl)
theorem nf_X2_isSlot : nfOk yX2_isSlot 1 := by unfold nfOk; decide +kernel
set_option maxHeartbeats 4000000 in
set_option maxRecDepth 100000 in
theorem c_X2_isSlot (l : Launch) (x : Int32) : Rd l yX2_isSlot wsX2_isSlot ({ frames := 1, cells := 0, slots := 0, locals := 22 }) [.int x] (fun _ => True) (bI (wI x (nI 0) (nI 3))) := by
  refine met_in RX2 (by decide) rfl rfl (Nat.le_of_ble_eq_true rfl) ?_
  intro p e s m below meth c ls S hr hlocks hl hB
  have hx := S.1
  have hb := S.2.1
  have hml := S.2.2.1
  have hown := S.2.2.2.1
  have hts := S.2.2.2.2
  have hl : lv_has ls 1 [(0, .int x)] := hl
  refine lv_iload_n hx hb dX2_isSlot_0 rfl (lv_at hl 0 rfl) ?_
  refine lv_iconst (v := nI 0) hx hb dX2_isSlot_1 (by decide) ?_
  refine lv_iconst (v := nI 3) hx hb dX2_isSlot_2 (by decide) ?_
  refine rd_S S hl (c_X2_in l x (nI 0) (nI 3)) HB.tt gX2_isSlot_X2_in rfl nf_X2_in rfl rfl dX2_isSlot_3  (fun _ _ _ => trivial) ?_
  exact ret_z hx hb hr hlocks dX2_isSlot_6 (by rfl)
theorem nf_X2_hexes : nfOk yX2_hexes 1 := by unfold nfOk; decide +kernel
set_option maxHeartbeats 4000000 in
set_option maxRecDepth 100000 in
theorem c_X2_hexes (l : Launch) (L : Nat) (hL : L ≤ 4) : Rd l yX2_hexes wsX2_hexes ({ frames := 0, cells := 0, slots := 0, locals := 0 }) [.int (nI L)] (fun _ => True) (nI (7 ^ L)) := by
  refine met_in RX2 (by decide) rfl rfl (Nat.le_of_ble_eq_true rfl) ?_
  intro p e s m below meth c ls S hr hlocks hl hB
  have hx := S.1
  have hb := S.2.1
  have hml := S.2.2.1
  have hown := S.2.2.2.1
  have hts := S.2.2.2.2
  have hl : lv_has ls 3 [(0, .int (nI L))] := hl
  refine lv_iconst (v := nI 1) hx hb dX2_hexes_0 (by decide) ?_
  refine lv_istore_n (lv' := [(1, .int (nI 1)), (0, .int (nI L))]) hx hb dX2_hexes_1 rfl hl (by decide) rfl (fun ls hl => ?_)
  refine lv_iconst (v := nI 0) hx hb dX2_hexes_2 (by decide) ?_
  refine lv_istore_n (lv' := [(2, .int (nI 0)), (1, .int (nI 1)), (0, .int (nI L))]) hx hb dX2_hexes_3 rfl hl (by decide) rfl (fun ls hl => ?_)
  have loop_4 : ∀ (n : Nat) (i : Nat), (i ≤ L) → L - i < n → ∀ (x1 x2 : Int32), x1 = nI (7 ^ i) → x2 = nI i → ∀ ls : Array Slot, lv_has ls 3 [(0, .int (nI L)), (1, .int x1), (2, .int x2)] → W p l e (headSpec wsX2_hexes ({ frames := 0, cells := 0, slots := 0, locals := 0 })).room s m [.int (nI L)].toArray below meth c s.heap [] 0 0 (MQ below (vp_Si (fun r => r = nI (7 ^ L))) [.int (nI L)].toArray s 0 0 (fun _ => False)) (F0 m 4 ls []) := by
    intro n
    induction n with
    | zero => intro i hi hm; exact absurd hm (Nat.not_lt_zero _)
    | succ n ih_4 =>
      intro i hi hm_4 x1 x2 e1 e2 ls hl
      subst e1
      subst e2
      refine lv_iload_n hx hb dX2_hexes_4 rfl (lv_at hl 2 rfl) ?_
      refine lv_iload_n hx hb dX2_hexes_5 rfl (lv_at hl 0 rfl) ?_
      refine nv_icmp_ge (tgt := 20) hx hb dX2_hexes_6 (by decide) (by omega) (by omega) (fun c_6 => ?_) (fun c_6 => ?_)
      ·
        have hLi : L = i := by omega
        subst hLi
        refine lv_iload_n hx hb dX2_hexes_20 rfl (lv_at hl 1 rfl) ?_
        exact ret_i hx hb hr hlocks dX2_hexes_21 (by rfl)
      ·
        refine lv_iload_n hx hb dX2_hexes_9 rfl (lv_at hl 1 rfl) ?_
        refine lv_bipush (v := nI 7) hx hb dX2_hexes_10 (by decide) ?_
        refine lv_imul hx hb dX2_hexes_12 ?_
        refine nv_as (nI ((7 ^ i) * 7)) (pk_mul _ _) ?_
        refine lv_istore_n (lv' := [(1, .int (nI ((7 ^ i) * 7))), (0, .int (nI L)), (2, .int (nI i))]) hx hb dX2_hexes_13 rfl hl (by decide) rfl (fun ls hl => ?_)
        refine lv_iinc (v := nI (i + 1)) (lv' := [(2, .int (nI (i + 1))), (1, .int (nI ((7 ^ i) * 7))), (0, .int (nI L))]) hx hb dX2_hexes_14 hl (k := 2) rfl (inc_nI _) (by decide) rfl (fun ls hl => ?_)
        refine lv_goto (tgt := 4) hx hb dX2_hexes_17 (by decide) ?_
        exact ih_4 (i + 1) (by omega) (by omega) _ _ (by first | rfl | exact congrArg nI (by omega)) (by first | rfl | exact congrArg nI (by omega)) _ (lv_sub hl [2, 1, 0] rfl)
  exact loop_4 (L - 0 + 1) 0 (by omega) (Nat.lt_succ_self _) _ _ (by first | rfl | exact congrArg nI (by omega)) rfl _ (lv_sub hl [2, 1, 0] rfl)
theorem nf_X2_patchOf : nfOk yX2_patchOf 2 := by unfold nfOk; decide +kernel
set_option maxHeartbeats 4000000 in
set_option maxRecDepth 100000 in
theorem c_X2_patchOf (l : Launch) (k : Nat) (L : Nat) (hk : k < 2 ^ 31) (hL : L ≤ 4) : Rd l yX2_patchOf wsX2_patchOf ({ frames := 1, cells := 0, slots := 0, locals := 22 }) [.int (nI k), .int (nI L)] (fun _ => True) (nI (k / 7 ^ L * 7 ^ L)) := by
  refine met_in RX2 (by decide) rfl rfl (Nat.le_of_ble_eq_true rfl) ?_
  intro p e s m below meth c ls S hr hlocks hl hB
  have hx := S.1
  have hb := S.2.1
  have hml := S.2.2.1
  have hown := S.2.2.2.1
  have hts := S.2.2.2.2
  have hl : lv_has ls 2 [(0, .int (nI k)), (1, .int (nI L))] := hl
  refine lv_iload_n hx hb dX2_patchOf_0 rfl (lv_at hl 0 rfl) ?_
  refine lv_iload_n hx hb dX2_patchOf_1 rfl (lv_at hl 1 rfl) ?_
  refine rd_S S hl (c_X2_hexes l L (by omega)) HB.tt gX2_patchOf_X2_hexes rfl nf_X2_hexes rfl rfl dX2_patchOf_2  (fun _ _ _ => trivial) ?_
  refine lv_idiv hx hb dX2_patchOf_5 (p7_ne hL) ?_
  refine nv_as (nI (k / 7 ^ L)) (by exact pk_div hk (Nat.pow_pos (by decide)) (p7_lt hL)) ?_
  refine lv_iload_n hx hb dX2_patchOf_6 rfl (lv_at hl 1 rfl) ?_
  refine rd_S S hl (c_X2_hexes l L (by omega)) HB.tt gX2_patchOf_X2_hexes rfl nf_X2_hexes rfl rfl dX2_patchOf_7  (fun _ _ _ => trivial) ?_
  refine lv_imul hx hb dX2_patchOf_10 ?_
  refine nv_as (nI ((k / 7 ^ L) * (7 ^ L))) (pk_mul _ _) ?_
  exact ret_i hx hb hr hlocks dX2_patchOf_11 (by rfl)
theorem nf_X2_sideA : nfOk yX2_sideA 1 := by unfold nfOk; decide +kernel
set_option maxHeartbeats 4000000 in
set_option maxRecDepth 100000 in
theorem c_X2_sideA (l : Launch) (d : Nat) (hd : d < 7) : Rd l yX2_sideA wsX2_sideA ({ frames := 0, cells := 0, slots := 0, locals := 0 }) [.int (nI d)] (fun _ => True) (iI (sA d)) := by
  refine met_in RX2 (by decide) rfl rfl (Nat.le_of_ble_eq_true rfl) ?_
  intro p e s m below meth c ls S hr hlocks hl hB
  have hx := S.1
  have hb := S.2.1
  have hml := S.2.2.1
  have hown := S.2.2.2.1
  have hts := S.2.2.2.2
  have hl : lv_has ls 1 [(0, .int (nI d))] := hl
  refine lv_iload_n hx hb dX2_sideA_0 rfl (lv_at hl 0 rfl) ?_
  refine lv_iconst (v := nI 1) hx hb dX2_sideA_1 (by decide) ?_
  refine nv_icmp_eq (tgt := 11) hx hb dX2_sideA_2 (by decide) (by omega) (by omega) (fun c_2 => ?_) (fun c_2 => ?_)
  ·
    refine lv_iconst (v := nI 1) hx hb dX2_sideA_11 (by decide) ?_
    refine lv_goto (tgt := 30) hx hb dX2_sideA_12 (by decide) ?_
    exact ret_i hx hb hr hlocks dX2_sideA_30 (by rcases (show d = 0 ∨ d = 1 ∨ d = 2 ∨ d = 3 ∨ d = 4 ∨ d = 5 ∨ d = 6 by omega) with rfl | rfl | rfl | rfl | rfl | rfl | rfl <;> first | rfl | (exfalso; omega))
  ·
    refine lv_iload_n hx hb dX2_sideA_5 rfl (lv_at hl 0 rfl) ?_
    refine lv_bipush (v := nI 6) hx hb dX2_sideA_6 (by decide) ?_
    refine nv_icmp_ne (tgt := 15) hx hb dX2_sideA_8 (by decide) (by omega) (by omega) (fun c_8 => ?_) (fun c_8 => ?_)
    ·
      refine lv_iload_n hx hb dX2_sideA_15 rfl (lv_at hl 0 rfl) ?_
      refine lv_iconst (v := nI 3) hx hb dX2_sideA_16 (by decide) ?_
      refine nv_icmp_eq (tgt := 25) hx hb dX2_sideA_17 (by decide) (by omega) (by omega) (fun c_17 => ?_) (fun c_17 => ?_)
      ·
        refine lv_iconst (v := (-1)) hx hb dX2_sideA_25 (by decide) ?_
        refine lv_goto (tgt := 30) hx hb dX2_sideA_26 (by decide) ?_
        exact ret_i hx hb hr hlocks dX2_sideA_30 (by rcases (show d = 0 ∨ d = 1 ∨ d = 2 ∨ d = 3 ∨ d = 4 ∨ d = 5 ∨ d = 6 by omega) with rfl | rfl | rfl | rfl | rfl | rfl | rfl <;> first | rfl | (exfalso; omega))
      ·
        refine lv_iload_n hx hb dX2_sideA_20 rfl (lv_at hl 0 rfl) ?_
        refine lv_iconst (v := nI 4) hx hb dX2_sideA_21 (by decide) ?_
        refine nv_icmp_ne (tgt := 29) hx hb dX2_sideA_22 (by decide) (by omega) (by omega) (fun c_22 => ?_) (fun c_22 => ?_)
        ·
          refine lv_iconst (v := nI 0) hx hb dX2_sideA_29 (by decide) ?_
          exact ret_i hx hb hr hlocks dX2_sideA_30 (by rcases (show d = 0 ∨ d = 1 ∨ d = 2 ∨ d = 3 ∨ d = 4 ∨ d = 5 ∨ d = 6 by omega) with rfl | rfl | rfl | rfl | rfl | rfl | rfl <;> first | rfl | (exfalso; omega))
        ·
          refine lv_iconst (v := (-1)) hx hb dX2_sideA_25 (by decide) ?_
          refine lv_goto (tgt := 30) hx hb dX2_sideA_26 (by decide) ?_
          exact ret_i hx hb hr hlocks dX2_sideA_30 (by rcases (show d = 0 ∨ d = 1 ∨ d = 2 ∨ d = 3 ∨ d = 4 ∨ d = 5 ∨ d = 6 by omega) with rfl | rfl | rfl | rfl | rfl | rfl | rfl <;> first | rfl | (exfalso; omega))
    ·
      refine lv_iconst (v := nI 1) hx hb dX2_sideA_11 (by decide) ?_
      refine lv_goto (tgt := 30) hx hb dX2_sideA_12 (by decide) ?_
      exact ret_i hx hb hr hlocks dX2_sideA_30 (by rcases (show d = 0 ∨ d = 1 ∨ d = 2 ∨ d = 3 ∨ d = 4 ∨ d = 5 ∨ d = 6 by omega) with rfl | rfl | rfl | rfl | rfl | rfl | rfl <;> first | rfl | (exfalso; omega))
theorem nf_X2_sideB : nfOk yX2_sideB 1 := by unfold nfOk; decide +kernel
set_option maxHeartbeats 4000000 in
set_option maxRecDepth 100000 in
theorem c_X2_sideB (l : Launch) (d : Nat) (hd : d < 7) : Rd l yX2_sideB wsX2_sideB ({ frames := 0, cells := 0, slots := 0, locals := 0 }) [.int (nI d)] (fun _ => True) (iI (sB d)) := by
  refine met_in RX2 (by decide) rfl rfl (Nat.le_of_ble_eq_true rfl) ?_
  intro p e s m below meth c ls S hr hlocks hl hB
  have hx := S.1
  have hb := S.2.1
  have hml := S.2.2.1
  have hown := S.2.2.2.1
  have hts := S.2.2.2.2
  have hl : lv_has ls 1 [(0, .int (nI d))] := hl
  refine lv_iload_n hx hb dX2_sideB_0 rfl (lv_at hl 0 rfl) ?_
  refine lv_iconst (v := nI 2) hx hb dX2_sideB_1 (by decide) ?_
  refine nv_icmp_eq (tgt := 10) hx hb dX2_sideB_2 (by decide) (by omega) (by omega) (fun c_2 => ?_) (fun c_2 => ?_)
  ·
    refine lv_iconst (v := nI 1) hx hb dX2_sideB_10 (by decide) ?_
    refine lv_goto (tgt := 30) hx hb dX2_sideB_11 (by decide) ?_
    exact ret_i hx hb hr hlocks dX2_sideB_30 (by rcases (show d = 0 ∨ d = 1 ∨ d = 2 ∨ d = 3 ∨ d = 4 ∨ d = 5 ∨ d = 6 by omega) with rfl | rfl | rfl | rfl | rfl | rfl | rfl <;> first | rfl | (exfalso; omega))
  ·
    refine lv_iload_n hx hb dX2_sideB_5 rfl (lv_at hl 0 rfl) ?_
    refine lv_iconst (v := nI 3) hx hb dX2_sideB_6 (by decide) ?_
    refine nv_icmp_ne (tgt := 14) hx hb dX2_sideB_7 (by decide) (by omega) (by omega) (fun c_7 => ?_) (fun c_7 => ?_)
    ·
      refine lv_iload_n hx hb dX2_sideB_14 rfl (lv_at hl 0 rfl) ?_
      refine lv_iconst (v := nI 5) hx hb dX2_sideB_15 (by decide) ?_
      refine nv_icmp_eq (tgt := 25) hx hb dX2_sideB_16 (by decide) (by omega) (by omega) (fun c_16 => ?_) (fun c_16 => ?_)
      ·
        refine lv_iconst (v := (-1)) hx hb dX2_sideB_25 (by decide) ?_
        refine lv_goto (tgt := 30) hx hb dX2_sideB_26 (by decide) ?_
        exact ret_i hx hb hr hlocks dX2_sideB_30 (by rcases (show d = 0 ∨ d = 1 ∨ d = 2 ∨ d = 3 ∨ d = 4 ∨ d = 5 ∨ d = 6 by omega) with rfl | rfl | rfl | rfl | rfl | rfl | rfl <;> first | rfl | (exfalso; omega))
      ·
        refine lv_iload_n hx hb dX2_sideB_19 rfl (lv_at hl 0 rfl) ?_
        refine lv_bipush (v := nI 6) hx hb dX2_sideB_20 (by decide) ?_
        refine nv_icmp_ne (tgt := 29) hx hb dX2_sideB_22 (by decide) (by omega) (by omega) (fun c_22 => ?_) (fun c_22 => ?_)
        ·
          refine lv_iconst (v := nI 0) hx hb dX2_sideB_29 (by decide) ?_
          exact ret_i hx hb hr hlocks dX2_sideB_30 (by rcases (show d = 0 ∨ d = 1 ∨ d = 2 ∨ d = 3 ∨ d = 4 ∨ d = 5 ∨ d = 6 by omega) with rfl | rfl | rfl | rfl | rfl | rfl | rfl <;> first | rfl | (exfalso; omega))
        ·
          refine lv_iconst (v := (-1)) hx hb dX2_sideB_25 (by decide) ?_
          refine lv_goto (tgt := 30) hx hb dX2_sideB_26 (by decide) ?_
          exact ret_i hx hb hr hlocks dX2_sideB_30 (by rcases (show d = 0 ∨ d = 1 ∨ d = 2 ∨ d = 3 ∨ d = 4 ∨ d = 5 ∨ d = 6 by omega) with rfl | rfl | rfl | rfl | rfl | rfl | rfl <;> first | rfl | (exfalso; omega))
    ·
      refine lv_iconst (v := nI 1) hx hb dX2_sideB_10 (by decide) ?_
      refine lv_goto (tgt := 30) hx hb dX2_sideB_11 (by decide) ?_
      exact ret_i hx hb hr hlocks dX2_sideB_30 (by rcases (show d = 0 ∨ d = 1 ∨ d = 2 ∨ d = 3 ∨ d = 4 ∨ d = 5 ∨ d = 6 by omega) with rfl | rfl | rfl | rfl | rfl | rfl | rfl <;> first | rfl | (exfalso; omega))
theorem nf_X2_size : nfOk yX2_size 1 := by unfold nfOk; decide +kernel
set_option maxHeartbeats 4000000 in
set_option maxRecDepth 100000 in
theorem c_X2_size (l : Launch) (x : Int32) : Rd l yX2_size wsX2_size ({ frames := 0, cells := 0, slots := 0, locals := 0 }) [.int x] (fun _ => True) (ab x) := by
  refine met_in RX2 (by decide) rfl rfl (Nat.le_of_ble_eq_true rfl) ?_
  intro p e s m below meth c ls S hr hlocks hl hB
  have hx := S.1
  have hb := S.2.1
  have hml := S.2.2.1
  have hown := S.2.2.2.1
  have hts := S.2.2.2.2
  have hl : lv_has ls 1 [(0, .int x)] := hl
  refine lv_iload_n hx hb dX2_size_0 rfl (lv_at hl 0 rfl) ?_
  refine lv_if_ge (tgt := 9) hx hb dX2_size_1 (by decide) (fun c_1 => ?_) (fun c_1 => ?_)
  ·
    refine lv_iload_n hx hb dX2_size_9 rfl (lv_at hl 0 rfl) ?_
    exact ret_i hx hb hr hlocks dX2_size_10 (by first | (unfold ab; rw [if_pos c_1]) | (unfold ab; rw [if_neg c_1, neg_eq]))
  ·
    refine lv_iload_n hx hb dX2_size_4 rfl (lv_at hl 0 rfl) ?_
    refine lv_ineg hx hb dX2_size_5 ?_
    refine lv_goto (tgt := 10) hx hb dX2_size_6 (by decide) ?_
    exact ret_i hx hb hr hlocks dX2_size_10 (by first | (unfold ab; rw [if_pos c_1]) | (unfold ab; rw [if_neg c_1, neg_eq]))
end
section
/-! numbers of the sheet in 32 bits; what the public calls answer -/
theorem iI_add (a b : Int) : iI a + iI b = iI (a + b) := (Int32.ofInt_add a b).symm
theorem iI_sub (a b : Int) : iI a - iI b = iI (a - b) := (Int32.ofInt_sub a b).symm
theorem iI_mul (a b : Int) : iI a * iI b = iI (a * b) := (Int32.ofInt_mul a b).symm
theorem nI_iI (n : Nat) : nI n = iI (n : Int) := Int32.ofInt_eq_ofNat.symm
theorem iI_toInt {z : Int} (h1 : -2147483648 ≤ z) (h2 : z < 2147483648) : (iI z).toInt = z := Int32.toInt_ofInt_of_le h1 h2
theorem iI_nat {z : Int} (h : 0 ≤ z) : iI z = nI z.toNat := by rw [nI_iI, Int.toNat_of_nonneg h]
theorem iI_of (x : Int32) : x = iI x.toInt := (Int32.ofInt_toInt x).symm
theorem m_iI (n : Nat) : (-(OfNat.ofNat n) : Int32) = iI (-(n : Int)) := by
  show -(Int32.ofNat n) = Int32.ofInt (-(n : Int))
  rw [Int32.ofInt_neg, Int32.ofInt_eq_ofNat]
theorem wI_int {x : Int32} {a b : Int} (h : wI x (iI a) (iI b) = true) (ha : -1000 ≤ a ∧ a ≤ 1000) (hb : -1000 ≤ b ∧ b ≤ 1000) : ∃ z : Int, a ≤ z ∧ z ≤ b ∧ x = iI z := by
  simp only [wI, Bool.and_eq_true, decide_eq_true_eq, Int32.le_iff_toInt_le] at h
  rw [iI_toInt (by omega) (by omega), iI_toInt (by omega) (by omega)] at h
  exact ⟨x.toInt, h.1, h.2, iI_of x⟩
theorem wI_iI {z a b : Int} (hz : -1000 ≤ z ∧ z ≤ 1000) (ha : -1000 ≤ a ∧ a ≤ 1000) (hb : -1000 ≤ b ∧ b ≤ 1000) : wI (iI z) (iI a) (iI b) = (decide (a ≤ z) && decide (z ≤ b)) := by
  unfold wI
  rw [show decide (iI a ≤ iI z) = decide (a ≤ z) from decide_eq_decide.mpr (by rw [Int32.le_iff_toInt_le, iI_toInt (by omega) (by omega), iI_toInt (by omega) (by omega)]),
    show decide (iI z ≤ iI b) = decide (z ≤ b) from decide_eq_decide.mpr (by rw [Int32.le_iff_toInt_le, iI_toInt (by omega) (by omega), iI_toInt (by omega) (by omega)])]
theorem pA_leaf {k : Nat} (hk : k < 2401) : nI (cellN k / 65) - nI 32 = iI (ptA k) := by
  have h1 := pt_bd hk
  have h2 := (cellN_lt hk).2
  unfold cellZ at h2
  rw [nI_iI, nI_iI, iI_sub]
  congr 1
  omega
theorem pB_leaf {k : Nat} (hk : k < 2401) : nI (cellN k % 65) - nI 32 = iI (ptB k) := by
  have h1 := pt_bd hk
  have h2 := (cellN_lt hk).2
  unfold cellZ at h2
  rw [nI_iI, nI_iI, iI_sub]
  congr 1
  omega
theorem side_bd {d : Nat} (h : d < 7) : -1 ≤ sA d ∧ sA d ≤ 1 ∧ -1 ≤ sB d ∧ sB d ≤ 1 := by
  have key : ∀ d : Fin 7, -1 ≤ sA d ∧ sA d ≤ 1 ∧ -1 ≤ sB d ∧ sB d ≤ 1 := by decide
  exact key ⟨d, h⟩
theorem nb_leaf {k d : Nat} (hk : k < 2401) (hd : d < 7) : vAt keyF 4225 (nI (cellN k) + stF d) = oI (nbo k d) := by
  have h1 := pt_bd hk
  have h2 := (cellN_lt hk).2
  have h3 := side_bd hd
  have e : (cellN k : Int) + (65 * sA d + sB d) = cellZ (ptA k + sA d) (ptB k + sB d) := by rw [h2]; unfold cellZ; omega
  have e0 : 0 ≤ cellZ (ptA k + sA d) (ptB k + sB d) := by unfold cellZ; omega
  have e1 : cellZ (ptA k + sA d) (ptB k + sB d) < 4225 := by unfold cellZ; omega
  unfold stF
  rw [nI_iI, iI_add, e, iI_nat e0, vAt_in (by omega) (by decide)]
  exact keyF_at (Int.toNat_of_nonneg e0) (by omega) (by omega)
theorem ko_leaf {a b : Int} (ha : -32 ≤ a ∧ a ≤ 32) (hb : -32 ≤ b ∧ b ≤ 32) : vAt keyF 4225 ((iI a + nI 32) * nI 65 + iI b + nI 32) = oI (kAt a b) := by
  have e0 : 0 ≤ cellZ a b := by unfold cellZ; omega
  have e1 : cellZ a b < 4225 := by unfold cellZ; omega
  rw [nI_iI, nI_iI, iI_add, iI_mul, iI_add, iI_add]
  show vAt keyF 4225 (iI (cellZ a b)) = _
  rw [iI_nat e0, vAt_in (by omega) (by decide)]
  exact keyF_at (Int.toNat_of_nonneg e0) ha hb
def farI (j k : Nat) : Int32 := mx (mx (ab (iI (ptA j) - iI (ptA k))) (ab (iI (ptB j) - iI (ptB k)))) (ab (iI (ptA j) - iI (ptA k) + (iI (ptB j) - iI (ptB k))))
def gd (ok : Bool) (r : Int32) : Int32 := bif ok then r else -2
def gs (ok1 ok2 : Bool) (r : Int32) : Int32 := bif ok1 then (bif ok2 then r else -2) else -1
abbrev cl (x : Int32) : Nat := x.toNatClampNeg
abbrev isK (x : Int32) : Bool := wI x (nI 0) (nI 2400)
abbrev isL (x : Int32) : Bool := wI x (nI 0) (nI 4)
abbrev isS (x : Int32) : Bool := wI x (nI 0) (nI 3)
def pO (k L : Nat) : Nat := k / 7 ^ L * 7 ^ L
def pointR (x y : Int32) : Int32 := gd (isK x && wI y (nI 0) (nI 1)) (nI 1000 + iI (if cl y = 0 then ptA (cl x) else ptB (cl x)))
def keyR (x y : Int32) : Int32 := gd (wI x (-100) (nI 100) && wI y (-100) (nI 100)) (oI (kAt x.toInt y.toInt))
def nextR (x y : Int32) : Int32 := gd (isK x && wI y (nI 1) (nI 6)) (oI (nbo (cl x) (cl y)))
def farR (x y : Int32) : Int32 := gd (isK x && isK y) (farI (cl x) (cl y))
def sdP (j k d : Nat) : Bool := decide (nbo j d = some k)
def sideR (x y : Int32) : Int32 := gd (isK x && isK y) (oI (lst (sdP (cl x) (cl y)) 7))
def patchR (x y : Int32) : Int32 := gd (isK x && isL y) (nI (pO (cl x) (cl y)))
def ringR (x y : Int32) : Int32 := gd (isK x && wI y (nI 0) (nI 70)) (nI (fb_ct (fun j => decide (farI (cl x) j = y)) 2401))
def hasR (σ : Nat → Nat → Bool) (a x : Int32) : Int32 := gs (isS a) (isK x) (bI (σ (cl a) (cl x)))
theorem wI_1 {x : Int32} {a n : Nat} (h : wI x (nI a) (nI n) = true) (hn : n < 2 ^ 31) (ha : a < 2 ^ 31) : ∃ k : Nat, a ≤ k ∧ k ≤ n ∧ x = nI k := by
  simp only [wI, Bool.and_eq_true, decide_eq_true_eq] at h
  have h0 : nI 0 ≤ nI a := nI_le (Nat.zero_le a) ha
  obtain ⟨k, h1, rfl⟩ := nI_of2 (M := nI n) (nI_toInt hn) (Int32.not_lt.mpr (Int32.le_trans h0 h.1)) h.2
  exact ⟨k, (nI_leI ha (by omega)).mp h.1, h1, rfl⟩
theorem lst_hit {p : Nat → Bool} {n d : Nat} (hd : d < n) (hp : p d = true) (hu : ∀ e, e < n → p e = true → e = d) : lst p n = some d := by
  cases h : lst p n with
  | none => exact absurd (lst_none h d hd) (by rw [hp]; decide)
  | some e =>
    obtain ⟨h1, h2, -⟩ := lst_some h
    rw [hu e h1 h2]
theorem lst_miss {p : Nat → Bool} {n : Nat} (h : ∀ e, e < n → p e = false) : lst p n = none := by
  cases e : lst p n with
  | none => rfl
  | some k =>
    obtain ⟨h1, h2, -⟩ := lst_some e
    rw [h k h1] at h2
    cases h2
theorem oI_eq {o : Option Nat} {k : Nat} (ho : ∀ j, o = some j → j < 2401) (hk : k < 2401) : oI o = nI k ↔ o = some k := by
  cases o with
  | none => exact ⟨fun h => by
      have h1 : (oI none).toInt = (nI k).toInt := by rw [h]
      rw [nI_toInt (by omega)] at h1
      have h2 : (oI none).toInt = -6 := by decide
      omega, fun h => by cases h⟩
  | some j =>
    have hj := ho j rfl
    show nI j = nI k ↔ _
    rw [nI_eq (by omega) (by omega)]
    exact ⟨fun h => by rw [h], fun h => Option.some.inj h⟩
theorem sd_hit {j k d : Nat} (hd : d < 7) (h : nbo j d = some k) : oI (lst (sdP j k) 7) = nI d := by
  rw [lst_hit (p := sdP j k) hd (decide_eq_true h) (fun e he hp => nbo_one he hd (of_decide_eq_true hp) h)]
  rfl
theorem nz0 {w : Nat} (h : nI w = 0) (hw : w < 2 ^ 31) : w = 0 := by
  rcases Nat.eq_zero_or_pos w with q | q
  · exact q
  · exact absurd h (nI_ne0 q hw)
theorem c_32 : (-32 : Int32) = iI (-32) := by decide
theorem c_n32 : nI 32 = iI 32 := by decide
theorem c_100 : (-100 : Int32) = iI (-100) := by decide
theorem c_n100 : nI 100 = iI 100 := by decide
theorem w32 {z : Int} (hz : -100 ≤ z ∧ z ≤ 100) : wI (iI z) (-32) (nI 32) = true ↔ (-32 ≤ z ∧ z ≤ 32) := by
  rw [c_32, c_n32, wI_iI (by omega) (by omega) (by omega)]
  simp
theorem w100 {x : Int32} (h : wI x (-100) (nI 100) = true) : ∃ z : Int, -100 ≤ z ∧ z ≤ 100 ∧ x = iI z := by
  rw [c_100, c_n100] at h
  exact wI_int h (by omega) (by omega)
theorem ko_out {a b : Int} (h : ¬ ((-32 ≤ a ∧ a ≤ 32) ∧ (-32 ≤ b ∧ b ≤ 32))) : (-6 : Int32) = oI (kAt a b) := by
  rw [kAt_out (fun q => h (by omega))]
  rfl
end
section
/-! sets: what is held, and how it changes -/
def inS (A : Nat → Bool) (o : Option Nat) : Bool := match o with
  | none => false
  | some k => A k
def stS (σ : Nat → Nat → Bool) (s k : Nat) (b : Bool) : Nat → Nat → Bool := fun s' k' => if s' = s ∧ k' = k then b else σ s' k'
def mdS (σ : Nat → Nat → Bool) (s lo hi : Nat) (f : Nat → Bool) : Nat → Nat → Bool := fun s' k' => if s' = s ∧ lo ≤ k' ∧ k' < hi then f k' else σ s' k'
def XS (D : va_G) (cI : ClassId) (ρ : Nat → Nat) (σ : Nat → Nat → Bool) (κ : Int32) (H : Heap) : Prop := ∃ mk qu : Nat → Int32, XP D cI ρ σ κ mk qu H
theorem md_step {σ : Nat → Nat → Bool} {s lo i : Nat} {f : Nat → Bool} {b : Bool} (hb : b = f i) (h : lo ≤ i) : stS (mdS σ s lo i f) s i b = mdS σ s lo (i + 1) f := by
  funext s' k'
  unfold stS mdS
  by_cases h1 : s' = s ∧ k' = i
  · rw [if_pos h1, if_pos ⟨h1.1, by omega, by omega⟩, h1.2, hb]
  · rw [if_neg h1]
    by_cases h2 : s' = s ∧ lo ≤ k' ∧ k' < i
    · rw [if_pos h2, if_pos ⟨h2.1, h2.2.1, by omega⟩]
    · rw [if_neg h2, if_neg (fun q => h2 ⟨q.1, q.2.1, by
        rcases Nat.lt_or_ge k' i with z | z
        · exact z
        · exact absurd ⟨q.1, by omega⟩ h1⟩)]
theorem md_0 {σ : Nat → Nat → Bool} {s lo : Nat} {f : Nat → Bool} : mdS σ s lo lo f = σ := by
  funext s' k'
  unfold mdS
  rw [if_neg (fun q => absurd q.2.2 (by omega))]
theorem md_ge {σ : Nat → Nat → Bool} {s lo i : Nat} {f : Nat → Bool} (s' : Nat) {k : Nat} (h : i ≤ k) : mdS σ s lo i f s' k = σ s' k := by
  unfold mdS
  rw [if_neg (fun q => absurd q.2.2 (by omega))]
theorem md_cg {σ : Nat → Nat → Bool} {s lo hi : Nat} {f g : Nat → Bool} (h : ∀ k, lo ≤ k → k < hi → f k = g k) : mdS σ s lo hi f = mdS σ s lo hi g := by
  funext s' k'
  unfold mdS
  by_cases h1 : s' = s ∧ lo ≤ k' ∧ k' < hi
  · rw [if_pos h1, if_pos h1, h k' h1.2.1 h1.2.2]
  · rw [if_neg h1, if_neg h1]
theorem hold_leaf {held : Nat → Int32} {σ : Nat → Nat → Bool} (h : RelX held σ) {s k : Nat} (hs : s < 4) (hk : k < 2401) : (held k >>> (nI s &&& 31)) &&& nI 1 = bI (σ s k) := by
  rw [hold_bit _ (by omega), h k hk s (by omega), decide_eq_true (show s < 12 by omega), Bool.true_and]
theorem bI_not1 {b : Bool} (h : ¬ bI b = nI 1) : b = false := by
  cases b with
  | false => rfl
  | true => exact absurd rfl h
theorem bI_is1 {b : Bool} (h : bI b = nI 1) : b = true := by
  cases b with
  | true => rfl
  | false => exact absurd h (by decide)
theorem place_t {held : Nat → Int32} {σ : Nat → Nat → Bool} (h : RelX held σ) {s k : Nat} (hs : s < 4) : RelX (upd held k ((held k &&& ((nI 1 <<< (nI s &&& 31)) ^^^ (-1))) ||| (nI 1 <<< (nI s &&& 31)))) (stS σ s k true) := by
  intro j hj i hi
  unfold upd stS
  by_cases e : j = k
  · subst e
    rw [if_pos rfl, bt_set _ (by omega) hi, h j hj i hi]
    by_cases e2 : i = s
    · rw [if_pos ⟨e2, rfl⟩]; simp [e2]; omega
    · rw [if_neg (fun q => e2 q.1)]; simp [e2]
  · rw [if_neg e, if_neg (fun q => e q.2)]
    exact h j hj i hi
theorem place_f {held : Nat → Int32} {σ : Nat → Nat → Bool} (h : RelX held σ) {s k : Nat} (hs : s < 4) : RelX (upd held k (held k &&& ((nI 1 <<< (nI s &&& 31)) ^^^ (-1)))) (stS σ s k false) := by
  intro j hj i hi
  unfold upd stS
  by_cases e : j = k
  · subst e
    rw [if_pos rfl, bt_clr _ (by omega) hi, h j hj i hi]
    by_cases e2 : i = s
    · rw [if_pos ⟨e2, rfl⟩]; simp [e2]
    · rw [if_neg (fun q => e2 q.1)]; simp [e2]
  · rw [if_neg e, if_neg (fun q => e q.2)]
    exact h j hj i hi
def nbc (A : Nat → Bool) (k : Nat) : Nat := fb_ct (fun d => inS A (nbo k (d + 1))) 6
def bdr (A : Nat → Bool) (n : Nat) : Nat := fb_sm (fun k => if A k then 6 - nbc A k else 0) n
theorem nbc_le (A : Nat → Bool) (k : Nat) : nbc A k ≤ 6 := fb_ct_le _ _
/-- the least of the last i of 2401 that is of A -/
def loK (A : Nat → Bool) : Nat → Option Nat
  | 0 => none
  | i + 1 => if A (2400 - i) then some (2400 - i) else loK A i
theorem loK_none {A : Nat → Bool} : ∀ {i : Nat}, (∀ j, 2401 - i ≤ j → j < 2401 → A j = false) → i ≤ 2401 → loK A i = none
  | 0, _, _ => rfl
  | i + 1, h, hi => by
    rw [loK, if_neg (by rw [h (2400 - i) (by omega) (by omega)]; decide)]
    exact loK_none (fun j h1 h2 => h j (by omega) h2) (by omega)
theorem loK_some {A : Nat → Bool} {k : Nat} (hk : A k = true) (hkl : k < 2401) (hn : ∀ j, j < k → A j = false) : ∀ {i : Nat}, i ≤ 2401 → 2401 - i ≤ k → loK A i = some k
  | 0, _, h => by omega
  | i + 1, hi, h => by
    rw [loK]
    rcases Nat.lt_or_ge (2400 - i) k with q | q
    · rw [if_neg (by rw [hn _ q]; decide)]
      exact loK_some hk hkl hn (by omega) (by omega)
    · have e : 2400 - i = k := by omega
      rw [e, if_pos hk]
def mI (t : Nat) : Int32 := match t with
  | 0 => -1
  | j + 1 => nI j
theorem mI_dec : ∀ j : Nat, nI j + Int32.ofInt (-1) = mI j
  | 0 => by decide
  | j + 1 => pk_m1 j
def growP (A : Nat → Bool) (w : Bool) (j : Nat) : Bool := bif w then (A j || decide (0 < nbc A j)) else (A j && decide (nbc A j = 6))
def putS (σ : Nat → Nat → Bool) (a x y z : Int32) : Nat → Nat → Bool := bif isS a && (isK x && isL y && wI z (nI 0) (nI 1)) then mdS σ (cl a) (pO (cl x) (cl y)) (pO (cl x) (cl y) + 7 ^ cl y) (fun _ => decide (cl z = 1)) else σ
def putR (σ : Nat → Nat → Bool) (a x y z : Int32) : Int32 := gs (isS a) (isK x && isL y && wI z (nI 0) (nI 1)) (nI (fb_ct (putS σ a x y z (cl a)) 2401))
def diskS (σ : Nat → Nat → Bool) (a x y : Int32) : Nat → Nat → Bool := bif isS a && (isK x && wI y (nI 0) (nI 70)) then mdS σ (cl a) 0 2401 (fun j => decide (farI (cl x) j ≤ y)) else σ
def diskR (σ : Nat → Nat → Bool) (a x y : Int32) : Int32 := gs (isS a) (isK x && wI y (nI 0) (nI 70)) (nI (fb_ct (diskS σ a x y (cl a)) 2401))
def joinS (σ : Nat → Nat → Bool) (a b c w : Int32) : Nat → Nat → Bool := bif isS a && isS b && isS c && wI w (nI 0) (nI 3) then mdS σ (cl a) 0 2401 (fun j => jn (σ (cl b) j) (σ (cl c) j) (cl w)) else σ
def joinR (σ : Nat → Nat → Bool) (a b c w : Int32) : Int32 := gs (isS a && isS b && isS c) (wI w (nI 0) (nI 3)) (nI (fb_ct (joinS σ a b c w (cl a)) 2401))
def growO (y : Int32) : Bool := decide (y = nI 1) || decide (y = -1)
def growS (σ : Nat → Nat → Bool) (a b y : Int32) : Nat → Nat → Bool := bif isS a && isS b && growO y then mdS σ (cl a) 0 2401 (growP (σ (cl b)) (decide (y = nI 1))) else σ
def growR (σ : Nat → Nat → Bool) (a b y : Int32) : Int32 := gs (isS a && isS b) (growO y) (nI (fb_ct (growS σ a b y (cl a)) 2401))
theorem mk_step {m1 : Nat → Int32} {f : Nat → Bool} {i : Nat} {v : Int32} (h : ∀ j, j < i → m1 j = bI (f j)) (hv : v = bI (f i)) : ∀ j, j < i + 1 → upd m1 i v j = bI (f j) := by
  intro j hj
  unfold upd
  by_cases e : j = i
  · rw [if_pos e, e, hv]
  · rw [if_neg e]; exact h j (by omega)
theorem lst_pos {A : Nat → Bool} {t : Nat} : ∀ {n : Nat}, t ≤ n → (∀ j, t ≤ j → j < n → A j = false) → lst A n = lst A t
  | 0, h, _ => by rw [show t = 0 by omega]
  | n + 1, h, hn => by
    rcases Nat.lt_or_ge t (n + 1) with q | q
    · rw [lst, if_neg (by rw [hn n (by omega) (by omega)]; decide)]
      exact lst_pos (by omega) (fun j h1 h2 => hn j h1 (by omega))
    · rw [show t = n + 1 by omega]
end
section
theorem no_step {A : Nat → Bool} {j n : Nat} (h : ∀ i, j + 1 ≤ i → i < n → A i = false) (hj : A j = false) : ∀ i, j ≤ i → i < n → A i = false := by
  intro i h1 h2
  rcases Nat.lt_or_ge j i with q | q
  · exact h i q h2
  · rw [show i = j by omega]; exact hj
theorem any4 {held : Nat → Int32} {σ : Nat → Nat → Bool} (h : RelX held σ) {k : Nat} (hk : k < 2401) : (held k &&& nI 15) = 0 ↔ (σ 0 k || σ 1 k || σ 2 k || σ 3 k) = false := by
  rw [bt_ext0]
  have e : ∀ i, i < 32 → bt (held k &&& nI 15) i = (decide (i < 4) && σ i k) := by
    intro i hi
    rw [b_and, h k hk i hi, bt_15]
    by_cases q : i < 4
    · simp [q]; omega
    · simp [q]
  constructor
  · intro hz
    have z : ∀ i, i < 4 → σ i k = false := fun i hi => by
      have q := (e i (by omega)).symm.trans (hz i (by omega))
      rw [decide_eq_true hi, Bool.true_and] at q
      exact q
    rw [z 0 (by omega), z 1 (by omega), z 2 (by omega), z 3 (by omega)]
    rfl
  · intro hz i hi
    rw [e i hi]
    simp only [Bool.or_eq_false_iff] at hz
    by_cases q : i < 4
    · rcases (show i = 0 ∨ i = 1 ∨ i = 2 ∨ i = 3 by omega) with rfl | rfl | rfl | rfl
      · rw [hz.1.1.1]; rfl
      · rw [hz.1.1.2]; rfl
      · rw [hz.1.2]; rfl
      · rw [hz.2]; rfl
    · rw [decide_eq_false q, Bool.false_and]
def anyP (σ : Nat → Nat → Bool) (k : Nat) : Bool := σ 0 k || σ 1 k || σ 2 k || σ 3 k
end
section
/-! packing, likeness, images: the pure side -/
theorem RelX.eq {held : Nat → Int32} {σ σ' : Nat → Nat → Bool} (h : RelX held σ) (e : σ' = σ) : RelX held σ' := by rw [e]; exact h
theorem pO_le {k L : Nat} (hk : k < 2401) (hL : L ≤ 4) : k / 7 ^ L * 7 ^ L + 7 ^ L ≤ 2401 := by
  rcases (show L = 0 ∨ L = 1 ∨ L = 2 ∨ L = 3 ∨ L = 4 by omega) with rfl | rfl | rfl | rfl | rfl <;> simp only [Nat.reducePow] <;> omega
def allN (A : Nat → Bool) (k : Nat) : Nat → Bool
  | 0 => true
  | n + 1 => allN A k n && A (k + n)
def fitP (A : Nat → Bool) (k L : Nat) : Bool := decide (k / 7 ^ L * 7 ^ L = k) && allN A k (7 ^ L)
def lev (A : Nat → Bool) (k : Nat) : Nat := bif fitP A k 1 then (bif fitP A k 2 then (bif fitP A k 3 then (bif fitP A k 4 then 4 else 3) else 2) else 1) else 0
theorem lev_le (A : Nat → Bool) (k : Nat) : lev A k ≤ 4 := by
  unfold lev
  cases fitP A k 1 <;> cases fitP A k 2 <;> cases fitP A k 3 <;> cases fitP A k 4 <;> simp
theorem lev_is {A : Nat → Bool} {k L : Nat} (hL : L ≤ 4) (h : ∀ j, j < L → fitP A k (j + 1) = true) (hn : L < 4 → fitP A k (L + 1) = false) : lev A k = L := by
  unfold lev
  rcases (show L = 0 ∨ L = 1 ∨ L = 2 ∨ L = 3 ∨ L = 4 by omega) with rfl | rfl | rfl | rfl | rfl
  · rw [hn (by omega)]; rfl
  · rw [h 0 (by omega), hn (by omega)]; rfl
  · rw [h 0 (by omega), h 1 (by omega), hn (by omega)]; rfl
  · rw [h 0 (by omega), h 1 (by omega), h 2 (by omega), hn (by omega)]; rfl
  · rw [h 0 (by omega), h 1 (by omega), h 2 (by omega), h 3 (by omega)]; rfl
theorem allN_f {A : Nat → Bool} {k j : Nat} : ∀ {n : Nat}, j < n → A (k + j) = false → allN A k n = false
  | 0, h, _ => by omega
  | n + 1, h, hj => by
    rw [allN]
    rcases Nat.lt_or_ge j n with q | q
    · rw [allN_f q hj]; rfl
    · rw [show n = j by omega, hj, Bool.and_false]
/-- how far the keys below i are taken -/
def pkT (A : Nat → Bool) : Nat → Nat
  | 0 => 0
  | i + 1 => if pkT A i ≤ i ∧ A i = true then i + 7 ^ lev A i else pkT A i
def isP (A : Nat → Bool) (i : Nat) : Bool := decide (pkT A i ≤ i) && A i
theorem isP_t {A : Nat → Bool} {i : Nat} (h1 : pkT A i ≤ i) (h2 : A i = true) : isP A i = true ∧ pkT A (i + 1) = i + 7 ^ lev A i := by
  unfold isP
  rw [decide_eq_true h1, h2, pkT, if_pos ⟨h1, h2⟩]
  exact ⟨rfl, rfl⟩
theorem isP_f1 {A : Nat → Bool} {i : Nat} (h1 : i < pkT A i) : isP A i = false ∧ pkT A (i + 1) = pkT A i := by
  unfold isP
  rw [decide_eq_false (by omega), pkT, if_neg (fun q => absurd q.1 (by omega))]
  exact ⟨rfl, rfl⟩
theorem isP_f2 {A : Nat → Bool} {i : Nat} (h2 : A i = false) : isP A i = false ∧ pkT A (i + 1) = pkT A i := by
  unfold isP
  rw [h2, Bool.and_false, pkT, if_neg (fun q => absurd q.2 (by rw [h2]; decide))]
  exact ⟨rfl, rfl⟩
theorem pkT_le (A : Nat → Bool) : ∀ i : Nat, pkT A i ≤ i + 2401
  | 0 => by rw [pkT]; omega
  | i + 1 => by
    have h := pkT_le A i
    have h2 := p7_le (lev_le A i)
    rw [pkT]
    split <;> omega
def pkC (A : Nat → Bool) : Nat := fb_ct (isP A) 2401
def pkQ (A : Nat → Bool) (x : Int32) (k : Nat) : Bool := isP A k && decide (nI (fb_ct (isP A) k) = x)
def pkKey (A : Nat → Bool) (x : Int32) : Option Nat := lst (pkQ A x) 2401
theorem pkQ_one {A : Nat → Bool} {x : Int32} {j k : Nat} (hj : j < 2401) (hk : k < 2401) (h1 : pkQ A x j = true) (h2 : pkQ A x k = true) : j = k := by
  simp only [pkQ, Bool.and_eq_true, decide_eq_true_eq] at h1 h2
  have b1 := fb_ct_le (isP A) j
  have b2 := fb_ct_le (isP A) k
  exact fb_ct_kth_one h1.1 h2.1 ((nI_eq (by omega) (by omega)).mp (h1.2.trans h2.2.symm))
theorem pkKey_lt {A : Nat → Bool} {x : Int32} {k : Nat} (h : pkKey A x = some k) : k < 2401 := (lst_some h).1
def packedR (σ : Nat → Nat → Bool) (a x y : Int32) : Int32 := gs (isS a) (wI y (nI 0) (nI 1)) (match pkKey (σ (cl a)) x with
  | none => -6
  | some k => if cl y = 0 then nI k else nI (lev (σ (cl a)) k))
def orN (p : Nat → Bool) : Nat → Bool
  | 0 => false
  | n + 1 => orN p n || p n
def alikeF (f1 f2 f3 : Bool) : Int32 := bif f1 then (bif f2 then (bif f3 then nI 4 else nI 3) else nI 2) else (bif f2 then nI 1 else nI 0)
def alikeR (σ : Nat → Nat → Bool) (a b : Int32) : Int32 := gs (isS a && isS b) true (alikeF (orN (fun j => σ (cl a) j && !σ (cl b) j) 2401) (orN (fun j => σ (cl b) j && !σ (cl a) j) 2401) (orN (fun j => σ (cl a) j && σ (cl b) j) 2401))
def kv (kp : Nat → Bool) : Int32 := nI ((if kp 0 then 1 else 0) + (if kp 1 then 2 else 0))
theorem kv_set {kp : Nat → Bool} {k : Nat} (hk : k ≤ 1) : kv kp ||| (nI 1 <<< (nI k &&& 31)) = kv (va_up kp k true) := by
  have key : ∀ (a b : Bool) (k : Fin 2), nI ((if a then 1 else 0) + (if b then 2 else 0)) ||| (nI 1 <<< (nI k.val &&& 31)) = nI ((if (if 0 = k.val then true else a) then 1 else 0) + (if (if 1 = k.val then true else b) then 2 else 0)) := by decide +kernel
  exact key (kp 0) (kp 1) ⟨k, by omega⟩
theorem kv_get {kp : Nat → Bool} {k : Nat} (hk : k ≤ 1) : (kv kp >>> (nI k &&& 31)) &&& nI 1 = bI (kp k) := by
  have key : ∀ (a b : Bool) (k : Fin 2), (nI ((if a then 1 else 0) + (if b then 2 else 0)) >>> (nI k.val &&& 31)) &&& nI 1 = bI (if k.val = 0 then a else b) := by decide +kernel
  have h := key (kp 0) (kp 1) ⟨k, by omega⟩
  rcases (show k = 0 ∨ k = 1 by omega) with rfl | rfl
  · exact h
  · exact h
def imgS (σ : Nat → Nat → Bool) (k i : Nat) : Nat → Nat → Bool := fun s j => if j < i ∧ 4 * (k + 1) ≤ s ∧ s < 4 * (k + 1) + 4 then σ (s - 4 * (k + 1)) j else σ s j
def rstS (σ : Nat → Nat → Bool) (k i : Nat) : Nat → Nat → Bool := fun s j => if j < i ∧ s < 4 then σ (s + 4 * (k + 1)) j else σ s j
theorem img_0 {σ : Nat → Nat → Bool} {k : Nat} : imgS σ k 0 = σ := by
  funext s j; unfold imgS; rw [if_neg (fun q => absurd q.1 (by omega))]
theorem rst_0 {σ : Nat → Nat → Bool} {k : Nat} : rstS σ k 0 = σ := by
  funext s j; unfold rstS; rw [if_neg (fun q => absurd q.1 (by omega))]
theorem bt_shm (x : Int32) {n i : Nat} (hn : n < 28) (hi : i < 32) : bt ((x &&& ((nI 15 <<< (nI n &&& 31)) ^^^ (-1))) ||| ((x &&& nI 15) <<< (nI n &&& 31))) i = if n ≤ i ∧ i < n + 4 then bt x (i - n) else bt x i := by
  rw [b_or, b_and, b_xor, b_shl n (by omega) _ hi, b_shl n (by omega) _ hi, b_m1 i hi, bt_15, b_and, bt_15]
  by_cases h1 : n ≤ i
  · by_cases h2 : i - n < 4
    · rw [if_pos ⟨h1, by omega⟩]; simp [h1, h2]
    · rw [if_neg (fun q => h2 (by omega))]; simp [h1, h2]
  · rw [if_neg (fun q => h1 q.1)]; simp [h1]
theorem bt_rst (x : Int32) {n i : Nat} (hn : n < 28) (hi : i < 32) : bt ((x &&& (-16)) ||| ((x >>> (nI n &&& 31)) &&& nI 15)) i = if i < 4 then bt x (n + i) else bt x i := by
  rw [b_or, b_and, bt_m16 i hi, b_and, b_sshr n (by omega) _ hi, bt_15]
  by_cases h1 : i < 4
  · rw [if_pos h1, if_pos (by omega)]; simp [h1]; omega
  · rw [if_neg h1]; simp [h1]; omega
theorem img_rel {held : Nat → Int32} {σ : Nat → Nat → Bool} {k i : Nat} (h : RelX held (imgS σ k i)) (hk : k ≤ 1) : RelX (upd held i ((held i &&& ((nI 15 <<< (nI (4 * (k + 1)) &&& 31)) ^^^ (-1))) ||| ((held i &&& nI 15) <<< (nI (4 * (k + 1)) &&& 31)))) (imgS σ k (i + 1)) := by
  intro j hj b hb
  unfold upd
  by_cases e : j = i
  · subst e
    rw [if_pos rfl, bt_shm _ (by omega) hb]
    have h1 := h j hj b hb
    by_cases q : 4 * (k + 1) ≤ b ∧ b < 4 * (k + 1) + 4
    · rw [if_pos q, h j hj _ (by omega)]
      unfold imgS
      rw [if_neg (fun z => absurd z.1 (by omega)), if_pos ⟨by omega, q⟩, decide_eq_true (by omega), decide_eq_true (by omega)]
    · rw [if_neg q, h1]
      unfold imgS
      rw [if_neg (fun z => q z.2), if_neg (fun z => q z.2)]
  · rw [if_neg e, h j hj b hb]
    unfold imgS
    by_cases q : j < i ∧ 4 * (k + 1) ≤ b ∧ b < 4 * (k + 1) + 4
    · rw [if_pos q, if_pos ⟨by omega, q.2⟩]
    · rw [if_neg q, if_neg (fun z => q ⟨by omega, z.2⟩)]
theorem rst_rel {held : Nat → Int32} {σ : Nat → Nat → Bool} {k i : Nat} (h : RelX held (rstS σ k i)) (hk : k ≤ 1) : RelX (upd held i ((held i &&& (-16)) ||| ((held i >>> (nI (4 * (k + 1)) &&& 31)) &&& nI 15))) (rstS σ k (i + 1)) := by
  intro j hj b hb
  unfold upd
  by_cases e : j = i
  · subst e
    rw [if_pos rfl, bt_rst _ (by omega) hb]
    by_cases q : b < 4
    · rw [if_pos q, h j hj _ (by omega)]
      unfold rstS
      rw [if_neg (fun z => absurd z.1 (by omega)), if_pos ⟨by omega, q⟩, decide_eq_true (by omega), decide_eq_true (by omega), Nat.add_comm]
    · rw [if_neg q, h j hj b hb]
      unfold rstS
      rw [if_neg (fun z => q z.2), if_neg (fun z => q z.2)]
  · rw [if_neg e, h j hj b hb]
    unfold rstS
    by_cases q : j < i ∧ b < 4
    · rw [if_pos q, if_pos ⟨by omega, q.2⟩]
    · rw [if_neg q, if_neg (fun z => q ⟨by omega, z.2⟩)]
def imageS (σ : Nat → Nat → Bool) (x : Int32) : Nat → Nat → Bool := bif wI x (nI 0) (nI 1) then imgS σ (cl x) 2401 else σ
def imageK (kp : Nat → Bool) (x : Int32) : Nat → Bool := bif wI x (nI 0) (nI 1) then va_up kp (cl x) true else kp
def imageR (x : Int32) : Int32 := gd (wI x (nI 0) (nI 1)) (nI 1)
def restS (σ : Nat → Nat → Bool) (kp : Nat → Bool) (x : Int32) : Nat → Nat → Bool := bif wI x (nI 0) (nI 1) && kp (cl x) then rstS σ (cl x) 2401 else σ
def restR (kp : Nat → Bool) (x : Int32) : Int32 := gd (wI x (nI 0) (nI 1)) (bif kp (cl x) then nI 1 else -3)
def pkA (σ : Nat → Nat → Bool) (n : Nat) : Nat := fb_sm (fun s => pkC (σ s)) n
def countR (σ : Nat → Nat → Bool) (κ x : Int32) : Int32 := if x = nI 0 then nI (fb_ct (anyP σ) 2401) else if x = nI 1 then nI (pkA σ 4) else if x = nI 2 then κ else -2
theorem sw_2 (x : Int32) : x = nI 0 ∨ x = nI 1 ∨ x = nI 2 ∨ (x.toInt < 0 ∨ 2 < x.toInt) := by
  by_cases h : x.toInt < 0 ∨ 2 < x.toInt
  · exact Or.inr (Or.inr (Or.inr h))
  · have e : ∀ n : Nat, x.toInt = n → n < 3 → x = nI n := fun n q hn => by rw [iI_of x, q, ← nI_iI]
    rcases (show x.toInt = 0 ∨ x.toInt = 1 ∨ x.toInt = 2 by omega) with q | q | q
    · exact Or.inl (e 0 q (by omega))
    · exact Or.inr (Or.inl (e 1 q (by omega)))
    · exact Or.inr (Or.inr (Or.inl (e 2 q (by omega))))
theorem sw_ne {x : Int32} {n : Nat} (hn : n < 100) {lo hi : Int} (h : x.toInt < lo ∨ hi < x.toInt) (h1 : lo ≤ n) (h2 : n ≤ hi) : ¬ x = nI n := by
  intro e
  rw [e, nI_toInt (by omega)] at h
  omega
end
section
theorem nf_X0_cellAt : nfOk yX0_cellAt 2 := by unfold nfOk; decide +kernel
set_option maxHeartbeats 4000000 in
set_option maxRecDepth 100000 in
theorem c_X0_cellAt (l : Launch) (a : Int32) (b : Int32) : Rd l yX0_cellAt wsX0_cellAt ({ frames := 0, cells := 0, slots := 0, locals := 0 }) [.int a, .int b] (fun _ => True) ((a + nI 32) * nI 65 + b + nI 32) := by
  refine met_in RX0 (by decide) rfl rfl (Nat.le_of_ble_eq_true rfl) ?_
  intro p e s m below meth c ls S hr hlocks hl hB
  have hx := S.1
  have hb := S.2.1
  have hml := S.2.2.1
  have hown := S.2.2.2.1
  have hts := S.2.2.2.2
  have hl : lv_has ls 2 [(0, .int a), (1, .int b)] := hl
  refine lv_iload_n hx hb dX0_cellAt_0 rfl (lv_at hl 0 rfl) ?_
  refine lv_bipush (v := nI 32) hx hb dX0_cellAt_1 (by decide) ?_
  refine lv_iadd hx hb dX0_cellAt_3 ?_
  refine lv_bipush (v := nI 65) hx hb dX0_cellAt_4 (by decide) ?_
  refine lv_imul hx hb dX0_cellAt_6 ?_
  refine lv_iload_n hx hb dX0_cellAt_7 rfl (lv_at hl 1 rfl) ?_
  refine lv_iadd hx hb dX0_cellAt_8 ?_
  refine lv_bipush (v := nI 32) hx hb dX0_cellAt_9 (by decide) ?_
  refine lv_iadd hx hb dX0_cellAt_11 ?_
  exact ret_i hx hb hr hlocks dX0_cellAt_12 (by first | rfl | simp_all)
theorem nf_X0_pointA : nfOk yX0_pointA 1 := by unfold nfOk; decide +kernel
set_option maxHeartbeats 4000000 in
set_option maxRecDepth 100000 in
theorem c_X0_pointA (l : Launch) (D : va_G) (cI cZ : ClassId) (ρ : Nat → Nat) (ts : Nat) (σ : Nat → Nat → Bool) (κ : Int32) (mk : Nat → Int32) (qu : Nat → Int32) (k : Nat) (hk : k < 2401) : Rd l yX0_pointA wsX0_pointA ({ frames := 1, cells := 0, slots := 0, locals := 21 }) [.ref (ρ 1), .int (nI k)] (XB D cI cZ ρ ts σ κ mk qu) (iI (ptA k)) := by
  refine met_in RX0 (by decide) rfl rfl (Nat.le_of_ble_eq_true rfl) ?_
  intro p e s m below meth c ls S hr hlocks hl hB
  have hx := S.1
  have hb := S.2.1
  have hml := S.2.2.1
  have hown := S.2.2.2.1
  have hts := S.2.2.2.2
  have hl : lv_has ls 2 [(0, .ref (ρ 1)), (1, .int (nI k))] := hl
  obtain ⟨⟨held, hRel, hP⟩, hXK⟩ := hB
  have hK := hXK.1
  have hS : va_S (xA 7 ρ) s.heap s.heap [] := va_S.rf
  have hcl := cellN_lt hk
  refine lv_aload_n hx hb dX0_pointA_0 rfl (lv_at hl 0 rfl) ?_
  refine va_get (D := D) (ci := 0) (v := .ref (ρ 5)) (C := RX0) (T := TX0) (N := 2) hx hb hts (by decide +kernel) hown hK hP 1 rfl rfl 0 (by decide) (hts (.fieldLink RX0 9 "SevenKeys$Sheet" "cells" "[I") (by decide +kernel)) (fun _ h9 => h9) rfl dX0_pointA_1 ?_
  refine lv_iload_n hx hb dX0_pointA_4 rfl (lv_at hl 1 rfl) ?_
  refine rd_SN S hl (c_X1_valueAt l (ρ 5) 2401 cellF (nI k) (by decide)) TB_hb gX0_pointA_X1_valueAt_n31 rfl nf_X1_valueAt rfl rfl dX0_pointA_5 hXK.2.2.2.2.1 (hts (.initialized RX1) (by decide +kernel)) (hts (.static yX1_valueAt) (by decide +kernel))  (TB_P hK hP 5 rfl (by decide)) ?_
  refine nv_as (nI (cellN k)) (by exact vAt_in hk (by decide)) ?_
  refine lv_bipush (v := nI 65) hx hb dX0_pointA_8 (by decide) ?_
  refine lv_idiv hx hb dX0_pointA_10 (by decide) ?_
  refine nv_as (nI ((cellN k) / 65)) (pk_div (by omega) (by omega) (by omega)) ?_
  refine lv_bipush (v := nI 32) hx hb dX0_pointA_11 (by decide) ?_
  refine lv_isub hx hb dX0_pointA_13 ?_
  exact ret_i hx hb hr hlocks dX0_pointA_14 (by exact pA_leaf hk)
theorem nf_X0_pointB : nfOk yX0_pointB 1 := by unfold nfOk; decide +kernel
set_option maxHeartbeats 4000000 in
set_option maxRecDepth 100000 in
theorem c_X0_pointB (l : Launch) (D : va_G) (cI cZ : ClassId) (ρ : Nat → Nat) (ts : Nat) (σ : Nat → Nat → Bool) (κ : Int32) (mk : Nat → Int32) (qu : Nat → Int32) (k : Nat) (hk : k < 2401) : Rd l yX0_pointB wsX0_pointB ({ frames := 1, cells := 0, slots := 0, locals := 21 }) [.ref (ρ 1), .int (nI k)] (XB D cI cZ ρ ts σ κ mk qu) (iI (ptB k)) := by
  refine met_in RX0 (by decide) rfl rfl (Nat.le_of_ble_eq_true rfl) ?_
  intro p e s m below meth c ls S hr hlocks hl hB
  have hx := S.1
  have hb := S.2.1
  have hml := S.2.2.1
  have hown := S.2.2.2.1
  have hts := S.2.2.2.2
  have hl : lv_has ls 2 [(0, .ref (ρ 1)), (1, .int (nI k))] := hl
  obtain ⟨⟨held, hRel, hP⟩, hXK⟩ := hB
  have hK := hXK.1
  have hS : va_S (xA 7 ρ) s.heap s.heap [] := va_S.rf
  have hcl := cellN_lt hk
  refine lv_aload_n hx hb dX0_pointB_0 rfl (lv_at hl 0 rfl) ?_
  refine va_get (D := D) (ci := 0) (v := .ref (ρ 5)) (C := RX0) (T := TX0) (N := 2) hx hb hts (by decide +kernel) hown hK hP 1 rfl rfl 0 (by decide) (hts (.fieldLink RX0 9 "SevenKeys$Sheet" "cells" "[I") (by decide +kernel)) (fun _ h9 => h9) rfl dX0_pointB_1 ?_
  refine lv_iload_n hx hb dX0_pointB_4 rfl (lv_at hl 1 rfl) ?_
  refine rd_SN S hl (c_X1_valueAt l (ρ 5) 2401 cellF (nI k) (by decide)) TB_hb gX0_pointB_X1_valueAt_n31 rfl nf_X1_valueAt rfl rfl dX0_pointB_5 hXK.2.2.2.2.1 (hts (.initialized RX1) (by decide +kernel)) (hts (.static yX1_valueAt) (by decide +kernel))  (TB_P hK hP 5 rfl (by decide)) ?_
  refine nv_as (nI (cellN k)) (by exact vAt_in hk (by decide)) ?_
  refine lv_bipush (v := nI 65) hx hb dX0_pointB_8 (by decide) ?_
  refine lv_irem hx hb dX0_pointB_10 (by decide) ?_
  refine nv_as (nI ((cellN k) % 65)) (pk_rem (by omega) (by omega) (by omega)) ?_
  refine lv_bipush (v := nI 32) hx hb dX0_pointB_11 (by decide) ?_
  refine lv_isub hx hb dX0_pointB_13 ?_
  exact ret_i hx hb hr hlocks dX0_pointB_14 (by exact pB_leaf hk)
theorem nf_X0_keyOf : nfOk yX0_keyOf 2 := by unfold nfOk; decide +kernel
set_option maxHeartbeats 4000000 in
set_option maxRecDepth 100000 in
theorem c_X0_keyOf (l : Launch) (D : va_G) (cI cZ : ClassId) (ρ : Nat → Nat) (ts : Nat) (σ : Nat → Nat → Bool) (κ : Int32) (mk : Nat → Int32) (qu : Nat → Int32) (a : Int) (b : Int) (ha : -100 ≤ a ∧ a ≤ 100) (hbb : -100 ≤ b ∧ b ≤ 100) : Rd l yX0_keyOf wsX0_keyOf ({ frames := 1, cells := 0, slots := 0, locals := 22 }) [.ref (ρ 1), .int (iI a), .int (iI b)] (XB D cI cZ ρ ts σ κ mk qu) (oI (kAt a b)) := by
  refine met_in RX0 (by decide) rfl rfl (Nat.le_of_ble_eq_true rfl) ?_
  intro p e s m below meth c ls S hr hlocks hl hB
  have hx := S.1
  have hb := S.2.1
  have hml := S.2.2.1
  have hown := S.2.2.2.1
  have hts := S.2.2.2.2
  have hl : lv_has ls 3 [(0, .ref (ρ 1)), (1, .int (iI a)), (2, .int (iI b))] := hl
  obtain ⟨⟨held, hRel, hP⟩, hXK⟩ := hB
  have hK := hXK.1
  have hS : va_S (xA 7 ρ) s.heap s.heap [] := va_S.rf
  refine lv_iload_n hx hb dX0_keyOf_0 rfl (lv_at hl 1 rfl) ?_
  refine lv_bipush (v := (-32)) hx hb dX0_keyOf_1 (by decide) ?_
  refine lv_bipush (v := nI 32) hx hb dX0_keyOf_3 (by decide) ?_
  refine rd_SN S hl (c_X1_within l (iI a) (-32) (nI 32)) HB.tt gX0_keyOf_X1_within_n42 rfl nf_X1_within rfl rfl dX0_keyOf_5 hXK.2.2.2.2.2 (hts (.initialized RX1) (by decide +kernel)) (hts (.static yX1_within) (by decide +kernel))  (fun _ _ _ => trivial) ?_
  refine nv_ifz_eq (tgt := 22) hx hb dX0_keyOf_8 (by decide) (fun c_8 => ?_) (fun c_8 => ?_)
  ·
    have q1 : ¬ (-32 ≤ a ∧ a ≤ 32) := fun q => absurd ((w32 ha).mpr q) (by rw [c_8]; decide)
    refine lv_bipush (v := (-6)) hx hb dX0_keyOf_22 (by decide) ?_
    exact ret_i hx hb hr hlocks dX0_keyOf_24 (by first | exact ko_out (fun q => q2 q.2) | exact ko_out (fun q => q1 q.1))
  ·
    have q1 := (w32 ha).mp c_8
    refine lv_iload_n hx hb dX0_keyOf_11 rfl (lv_at hl 2 rfl) ?_
    refine lv_bipush (v := (-32)) hx hb dX0_keyOf_12 (by decide) ?_
    refine lv_bipush (v := nI 32) hx hb dX0_keyOf_14 (by decide) ?_
    refine rd_SN S hl (c_X1_within l (iI b) (-32) (nI 32)) HB.tt gX0_keyOf_X1_within_n42 rfl nf_X1_within rfl rfl dX0_keyOf_16 hXK.2.2.2.2.2 (hts (.initialized RX1) (by decide +kernel)) (hts (.static yX1_within) (by decide +kernel))  (fun _ _ _ => trivial) ?_
    refine nv_ifz_ne (tgt := 25) hx hb dX0_keyOf_19 (by decide) (fun c_19 => ?_) (fun c_19 => ?_)
    ·
      have q2 := (w32 hbb).mp c_19
      refine lv_aload_n hx hb dX0_keyOf_25 rfl (lv_at hl 0 rfl) ?_
      refine va_get (D := D) (ci := 0) (v := .ref (ρ 6)) (C := RX0) (T := TX0) (N := 2) hx hb hts (by decide +kernel) hown hK hP 1 rfl rfl 1 (by decide) (hts (.fieldLink RX0 15 "SevenKeys$Sheet" "keys" "[I") (by decide +kernel)) (fun _ h9 => h9) rfl dX0_keyOf_26 ?_
      refine lv_iload_n hx hb dX0_keyOf_29 rfl (lv_at hl 1 rfl) ?_
      refine lv_iload_n hx hb dX0_keyOf_30 rfl (lv_at hl 2 rfl) ?_
      refine rd_S S hl (c_X0_cellAt l (iI a) (iI b)) HB.tt gX0_keyOf_X0_cellAt rfl nf_X0_cellAt rfl rfl dX0_keyOf_31  (fun _ _ _ => trivial) ?_
      refine rd_SN S hl (c_X1_valueAt l (ρ 6) 4225 keyF (((iI a) + nI 32) * nI 65 + (iI b) + nI 32) (by decide)) TB_hb gX0_keyOf_X1_valueAt_n31 rfl nf_X1_valueAt rfl rfl dX0_keyOf_34 hXK.2.2.2.2.1 (hts (.initialized RX1) (by decide +kernel)) (hts (.static yX1_valueAt) (by decide +kernel))  (TB_P hK hP 6 rfl (by decide)) ?_
      refine nv_as (oI (kAt a b)) (by exact ko_leaf q1 q2) ?_
      exact ret_i hx hb hr hlocks dX0_keyOf_37 (by rfl)
    ·
      have q2 : ¬ (-32 ≤ b ∧ b ≤ 32) := fun q => absurd ((w32 hbb).mpr q) (by rw [c_19]; decide)
      refine lv_bipush (v := (-6)) hx hb dX0_keyOf_22 (by decide) ?_
      exact ret_i hx hb hr hlocks dX0_keyOf_24 (by first | exact ko_out (fun q => q2 q.2) | exact ko_out (fun q => q1 q.1))
theorem nf_X0_neighbour : nfOk yX0_neighbour 2 := by unfold nfOk; decide +kernel
set_option maxHeartbeats 4000000 in
set_option maxRecDepth 100000 in
theorem c_X0_neighbour (l : Launch) (D : va_G) (cI cZ : ClassId) (ρ : Nat → Nat) (ts : Nat) (σ : Nat → Nat → Bool) (κ : Int32) (mk : Nat → Int32) (qu : Nat → Int32) (k : Nat) (d : Nat) (hk : k < 2401) (hd : d < 7) : Rd l yX0_neighbour wsX0_neighbour ({ frames := 1, cells := 0, slots := 0, locals := 21 }) [.ref (ρ 1), .int (nI k), .int (nI d)] (XB D cI cZ ρ ts σ κ mk qu) (oI (nbo k d)) := by
  refine met_in RX0 (by decide) rfl rfl (Nat.le_of_ble_eq_true rfl) ?_
  intro p e s m below meth c ls S hr hlocks hl hB
  have hx := S.1
  have hb := S.2.1
  have hml := S.2.2.1
  have hown := S.2.2.2.1
  have hts := S.2.2.2.2
  have hl : lv_has ls 3 [(0, .ref (ρ 1)), (1, .int (nI k)), (2, .int (nI d))] := hl
  obtain ⟨⟨held, hRel, hP⟩, hXK⟩ := hB
  have hK := hXK.1
  have hS : va_S (xA 7 ρ) s.heap s.heap [] := va_S.rf
  refine lv_aload_n hx hb dX0_neighbour_0 rfl (lv_at hl 0 rfl) ?_
  refine va_get (D := D) (ci := 0) (v := .ref (ρ 6)) (C := RX0) (T := TX0) (N := 2) hx hb hts (by decide +kernel) hown hK hP 1 rfl rfl 1 (by decide) (hts (.fieldLink RX0 15 "SevenKeys$Sheet" "keys" "[I") (by decide +kernel)) (fun _ h9 => h9) rfl dX0_neighbour_1 ?_
  refine lv_aload_n hx hb dX0_neighbour_4 rfl (lv_at hl 0 rfl) ?_
  refine va_get (D := D) (ci := 0) (v := .ref (ρ 5)) (C := RX0) (T := TX0) (N := 2) hx hb hts (by decide +kernel) hown hK hP 1 rfl rfl 0 (by decide) (hts (.fieldLink RX0 9 "SevenKeys$Sheet" "cells" "[I") (by decide +kernel)) (fun _ h9 => h9) rfl dX0_neighbour_5 ?_
  refine lv_iload_n hx hb dX0_neighbour_8 rfl (lv_at hl 1 rfl) ?_
  refine rd_SN S hl (c_X1_valueAt l (ρ 5) 2401 cellF (nI k) (by decide)) TB_hb gX0_neighbour_X1_valueAt_n31 rfl nf_X1_valueAt rfl rfl dX0_neighbour_9 hXK.2.2.2.2.1 (hts (.initialized RX1) (by decide +kernel)) (hts (.static yX1_valueAt) (by decide +kernel))  (TB_P hK hP 5 rfl (by decide)) ?_
  refine nv_as (nI (cellN k)) (by exact vAt_in hk (by decide)) ?_
  refine va_gets hx hb hXK.2.2.1 hS hown (hts (.fieldLink RX0 46 "SevenKeys$Sheet" "SIDE_STEPS" "[I") (by decide +kernel)) (fun _ h9 => h9) dX0_neighbour_12 ?_
  refine lv_iload_n hx hb dX0_neighbour_15 rfl (lv_at hl 2 rfl) ?_
  refine rd_SN S hl (c_X1_valueAt l ts 7 stF (nI d) (by decide)) TB_hb gX0_neighbour_X1_valueAt_n31 rfl nf_X1_valueAt rfl rfl dX0_neighbour_16 hXK.2.2.2.2.1 (hts (.initialized RX1) (by decide +kernel)) (hts (.static yX1_valueAt) (by decide +kernel))  (TB_T hXK.2.2.2.1 hS) ?_
  refine nv_as (stF d) (by exact vAt_in hd (by decide)) ?_
  refine lv_iadd hx hb dX0_neighbour_19 ?_
  refine rd_SN S hl (c_X1_valueAt l (ρ 6) 4225 keyF ((nI (cellN k)) + (stF d)) (by decide)) TB_hb gX0_neighbour_X1_valueAt_n31 rfl nf_X1_valueAt rfl rfl dX0_neighbour_20 hXK.2.2.2.2.1 (hts (.initialized RX1) (by decide +kernel)) (hts (.static yX1_valueAt) (by decide +kernel))  (TB_P hK hP 6 rfl (by decide)) ?_
  refine nv_as (oI (nbo k d)) (by exact nb_leaf hk hd) ?_
  exact ret_i hx hb hr hlocks dX0_neighbour_23 (by rfl)
theorem nf_X0_stepsApart : nfOk yX0_stepsApart 2 := by unfold nfOk; decide +kernel
set_option maxHeartbeats 4000000 in
set_option maxRecDepth 100000 in
theorem c_X0_stepsApart (l : Launch) (D : va_G) (cI cZ : ClassId) (ρ : Nat → Nat) (ts : Nat) (σ : Nat → Nat → Bool) (κ : Int32) (mk : Nat → Int32) (qu : Nat → Int32) (j : Nat) (k : Nat) (hj : j < 2401) (hk : k < 2401) : Rd l yX0_stepsApart wsX0_stepsApart ({ frames := 2, cells := 0, slots := 0, locals := 42 }) [.ref (ρ 1), .int (nI j), .int (nI k)] (XB D cI cZ ρ ts σ κ mk qu) (farI j k) := by
  refine met_in RX0 (by decide) rfl rfl (Nat.le_of_ble_eq_true rfl) ?_
  intro p e s m below meth c ls S hr hlocks hl hB
  have hx := S.1
  have hb := S.2.1
  have hml := S.2.2.1
  have hown := S.2.2.2.1
  have hts := S.2.2.2.2
  have hl : lv_has ls 5 [(0, .ref (ρ 1)), (1, .int (nI j)), (2, .int (nI k))] := hl
  obtain ⟨⟨held, hRel, hP⟩, hXK⟩ := hB
  have hK := hXK.1
  have hS : va_S (xA 7 ρ) s.heap s.heap [] := va_S.rf
  refine lv_aload_n hx hb dX0_stepsApart_0 rfl (lv_at hl 0 rfl) ?_
  refine lv_iload_n hx hb dX0_stepsApart_1 rfl (lv_at hl 1 rfl) ?_
  refine rd_V S hl (c_X0_pointA l D cI cZ ρ ts σ κ mk qu j (by omega)) XB.hb gX0_stepsApart_X0_pointA rfl rfl nf_X0_pointA rfl rfl dX0_stepsApart_2 (XP.rc1 hXK hP) (XB.at hXK hS ⟨held, hRel, hP⟩) ?_
  refine lv_aload_n hx hb dX0_stepsApart_5 rfl (lv_at hl 0 rfl) ?_
  refine lv_iload_n hx hb dX0_stepsApart_6 rfl (lv_at hl 2 rfl) ?_
  refine rd_V S hl (c_X0_pointA l D cI cZ ρ ts σ κ mk qu k (by omega)) XB.hb gX0_stepsApart_X0_pointA rfl rfl nf_X0_pointA rfl rfl dX0_stepsApart_7 (XP.rc1 hXK hP) (XB.at hXK hS ⟨held, hRel, hP⟩) ?_
  refine lv_isub hx hb dX0_stepsApart_10 ?_
  refine lv_istore_n (lv' := [(3, .int ((iI (ptA j)) - (iI (ptA k)))), (0, .ref (ρ 1)), (1, .int (nI j)), (2, .int (nI k))]) hx hb dX0_stepsApart_11 rfl hl (by decide) rfl (fun ls hl => ?_)
  refine lv_aload_n hx hb dX0_stepsApart_12 rfl (lv_at hl 1 rfl) ?_
  refine lv_iload_n hx hb dX0_stepsApart_13 rfl (lv_at hl 2 rfl) ?_
  refine rd_V S hl (c_X0_pointB l D cI cZ ρ ts σ κ mk qu j (by omega)) XB.hb gX0_stepsApart_X0_pointB rfl rfl nf_X0_pointB rfl rfl dX0_stepsApart_14 (XP.rc1 hXK hP) (XB.at hXK hS ⟨held, hRel, hP⟩) ?_
  refine lv_aload_n hx hb dX0_stepsApart_17 rfl (lv_at hl 1 rfl) ?_
  refine lv_iload_n hx hb dX0_stepsApart_18 rfl (lv_at hl 3 rfl) ?_
  refine rd_V S hl (c_X0_pointB l D cI cZ ρ ts σ κ mk qu k (by omega)) XB.hb gX0_stepsApart_X0_pointB rfl rfl nf_X0_pointB rfl rfl dX0_stepsApart_19 (XP.rc1 hXK hP) (XB.at hXK hS ⟨held, hRel, hP⟩) ?_
  refine lv_isub hx hb dX0_stepsApart_22 ?_
  refine lv_istore (lv' := [(4, .int ((iI (ptB j)) - (iI (ptB k)))), (3, .int ((iI (ptA j)) - (iI (ptA k)))), (0, .ref (ρ 1)), (1, .int (nI j)), (2, .int (nI k))]) hx hb dX0_stepsApart_23 hl (by decide) rfl (fun ls hl => ?_)
  refine lv_iload_n hx hb dX0_stepsApart_25 rfl (lv_at hl 1 rfl) ?_
  refine va_mabs hx hb (hml.trans hl.1.symm) hown (hts (.methodLink RX0 55 Lib.Math.abs.name) (by decide +kernel)) (hts (.static Lib.Math.abs.name) (by decide +kernel)) (hts (.initialized "java/lang/Math") (by decide +kernel)) (hts (.code Lib.Math.abs.name Lib.Math.abs.code 1 (some .int)) (by decide +kernel)) (Nat.le_of_ble_eq_true rfl) (Nat.le_of_ble_eq_true rfl) (Nat.le_of_ble_eq_true rfl) (Nat.le_of_ble_eq_true rfl) dX0_stepsApart_26 ?_
  refine lv_iload hx hb dX0_stepsApart_29 (lv_at hl 0 rfl) ?_
  refine va_mabs hx hb (hml.trans hl.1.symm) hown (hts (.methodLink RX0 55 Lib.Math.abs.name) (by decide +kernel)) (hts (.static Lib.Math.abs.name) (by decide +kernel)) (hts (.initialized "java/lang/Math") (by decide +kernel)) (hts (.code Lib.Math.abs.name Lib.Math.abs.code 1 (some .int)) (by decide +kernel)) (Nat.le_of_ble_eq_true rfl) (Nat.le_of_ble_eq_true rfl) (Nat.le_of_ble_eq_true rfl) (Nat.le_of_ble_eq_true rfl) dX0_stepsApart_31 ?_
  refine va_mmax hx hb (hml.trans hl.1.symm) hown (hts (.methodLink RX0 60 Lib.Math.max.name) (by decide +kernel)) (hts (.static Lib.Math.max.name) (by decide +kernel)) (hts (.initialized "java/lang/Math") (by decide +kernel)) (hts (.code Lib.Math.max.name Lib.Math.max.code 2 (some .int)) (by decide +kernel)) (Nat.le_of_ble_eq_true rfl) (Nat.le_of_ble_eq_true rfl) (Nat.le_of_ble_eq_true rfl) (Nat.le_of_ble_eq_true rfl) dX0_stepsApart_34 ?_
  refine lv_iload_n hx hb dX0_stepsApart_37 rfl (lv_at hl 1 rfl) ?_
  refine lv_iload hx hb dX0_stepsApart_38 (lv_at hl 0 rfl) ?_
  refine lv_iadd hx hb dX0_stepsApart_40 ?_
  refine va_mabs hx hb (hml.trans hl.1.symm) hown (hts (.methodLink RX0 55 Lib.Math.abs.name) (by decide +kernel)) (hts (.static Lib.Math.abs.name) (by decide +kernel)) (hts (.initialized "java/lang/Math") (by decide +kernel)) (hts (.code Lib.Math.abs.name Lib.Math.abs.code 1 (some .int)) (by decide +kernel)) (Nat.le_of_ble_eq_true rfl) (Nat.le_of_ble_eq_true rfl) (Nat.le_of_ble_eq_true rfl) (Nat.le_of_ble_eq_true rfl) dX0_stepsApart_41 ?_
  refine va_mmax hx hb (hml.trans hl.1.symm) hown (hts (.methodLink RX0 60 Lib.Math.max.name) (by decide +kernel)) (hts (.static Lib.Math.max.name) (by decide +kernel)) (hts (.initialized "java/lang/Math") (by decide +kernel)) (hts (.code Lib.Math.max.name Lib.Math.max.code 2 (some .int)) (by decide +kernel)) (Nat.le_of_ble_eq_true rfl) (Nat.le_of_ble_eq_true rfl) (Nat.le_of_ble_eq_true rfl) (Nat.le_of_ble_eq_true rfl) dX0_stepsApart_44 ?_
  exact ret_i hx hb hr hlocks dX0_stepsApart_47 (by rfl)
end
section
theorem nf_X1_point : nfOk yX1_point 2 := by unfold nfOk; decide +kernel
set_option maxHeartbeats 4000000 in
set_option maxRecDepth 100000 in
theorem c_X1_point (l : Launch) (D : va_G) (cI cZ : ClassId) (ρ : Nat → Nat) (ts : Nat) (σ : Nat → Nat → Bool) (κ : Int32) (mk : Nat → Int32) (qu : Nat → Int32) (x : Int32) (y : Int32) : Rd l yX1_point wsX1_point ({ frames := 2, cells := 0, slots := 0, locals := 42 }) [.ref (ρ 0), .int x, .int y] (XB D cI cZ ρ ts σ κ mk qu) (pointR x y) := by
  refine met_in RX1 (by decide) rfl rfl (Nat.le_of_ble_eq_true rfl) ?_
  intro p e s m below meth c ls S hr hlocks hl hB
  have hx := S.1
  have hb := S.2.1
  have hml := S.2.2.1
  have hown := S.2.2.2.1
  have hts := S.2.2.2.2
  have hl : lv_has ls 3 [(0, .ref (ρ 0)), (1, .int x), (2, .int y)] := hl
  obtain ⟨⟨held, hRel, hP⟩, hXK⟩ := hB
  have hK := hXK.1
  have hS : va_S (xA 7 ρ) s.heap s.heap [] := va_S.rf
  refine lv_iload_n hx hb dX1_point_0 rfl (lv_at hl 1 rfl) ?_
  refine rd_S S hl (c_X1_isKey l x) HB.tt gX1_point_X1_isKey rfl nf_X1_isKey rfl rfl dX1_point_1  (fun _ _ _ => trivial) ?_
  refine nv_ifz_eq (tgt := 16) hx hb dX1_point_4 (by decide) (fun c_4 => ?_) (fun c_4 => ?_)
  ·
    refine lv_bipush (v := (-2)) hx hb dX1_point_16 (by decide) ?_
    exact ret_i hx hb hr hlocks dX1_point_18 (by first | (simp [pointR, gd, gs, c_4, c_13]; done) | (simp [pointR, gd, gs, c_4]; done))
  ·
    obtain ⟨k, hk, hxk⟩ := wI_nat c_4 (by decide)
    subst hxk
    have hck : (nI k).toNatClampNeg = k := nI_clamp (by omega)
    refine lv_iload_n hx hb dX1_point_7 rfl (lv_at hl 2 rfl) ?_
    refine lv_iconst (v := nI 0) hx hb dX1_point_8 (by decide) ?_
    refine lv_iconst (v := nI 1) hx hb dX1_point_9 (by decide) ?_
    refine rd_S S hl (c_X1_within l y (nI 0) (nI 1)) HB.tt gX1_point_X1_within rfl nf_X1_within rfl rfl dX1_point_10  (fun _ _ _ => trivial) ?_
    refine nv_ifz_ne (tgt := 19) hx hb dX1_point_13 (by decide) (fun c_13 => ?_) (fun c_13 => ?_)
    ·
      obtain ⟨w, hw, hxw⟩ := wI_nat c_13 (by decide)
      subst hxw
      have hcw : (nI w).toNatClampNeg = w := nI_clamp (by omega)
      refine lv_sipush (v := nI 1000) hx hb dX1_point_19 (by decide) ?_
      refine lv_iload_n hx hb dX1_point_22 rfl (lv_at hl 2 rfl) ?_
      refine lv_if_ne (tgt := 37) hx hb dX1_point_23 (by decide) (fun c_23 => ?_) (fun c_23 => ?_)
      ·
        have hw0 : w ≠ 0 := fun q => c_23 (by rw [q]; rfl)
        refine lv_aload_n hx hb dX1_point_37 rfl (lv_at hl 0 rfl) ?_
        refine va_get (D := D) (ci := 1) (v := .ref (ρ 1)) (C := RX1) (T := TX1) (N := 5) hx hb hts (by decide +kernel) hown hK hP 0 rfl rfl 0 (by decide) (hts (.fieldLink RX1 10 "SevenKeys" "sheet" "LSevenKeys$Sheet;") (by decide +kernel)) (fun _ h9 => h9) rfl dX1_point_38 ?_
        refine lv_iload_n hx hb dX1_point_41 rfl (lv_at hl 1 rfl) ?_
        refine rd_V S hl (c_X0_pointB l D cI cZ ρ ts σ κ mk qu k (by omega)) XB.hb gX1_point_X0_pointB rfl rfl nf_X0_pointB rfl rfl dX1_point_42 (XP.rc1 hXK hP) (XB.at hXK hS ⟨held, hRel, hP⟩) ?_
        refine lv_iadd hx hb dX1_point_45 ?_
        exact ret_i hx hb hr hlocks dX1_point_46 (by unfold pointR gd; rw [show isK (nI k) = true from c_4, c_13, show cl (nI k) = k from hck, show cl (nI w) = w from hcw]; first | (rw [if_pos hw0]; rfl) | (rw [if_neg hw0]; rfl))
      ·
        have hw0 : w = 0 := nz0 c_23 (by omega)
        refine lv_aload_n hx hb dX1_point_26 rfl (lv_at hl 0 rfl) ?_
        refine va_get (D := D) (ci := 1) (v := .ref (ρ 1)) (C := RX1) (T := TX1) (N := 5) hx hb hts (by decide +kernel) hown hK hP 0 rfl rfl 0 (by decide) (hts (.fieldLink RX1 10 "SevenKeys" "sheet" "LSevenKeys$Sheet;") (by decide +kernel)) (fun _ h9 => h9) rfl dX1_point_27 ?_
        refine lv_iload_n hx hb dX1_point_30 rfl (lv_at hl 1 rfl) ?_
        refine rd_V S hl (c_X0_pointA l D cI cZ ρ ts σ κ mk qu k (by omega)) XB.hb gX1_point_X0_pointA rfl rfl nf_X0_pointA rfl rfl dX1_point_31 (XP.rc1 hXK hP) (XB.at hXK hS ⟨held, hRel, hP⟩) ?_
        refine lv_goto (tgt := 45) hx hb dX1_point_34 (by decide) ?_
        refine lv_iadd hx hb dX1_point_45 ?_
        exact ret_i hx hb hr hlocks dX1_point_46 (by unfold pointR gd; rw [show isK (nI k) = true from c_4, c_13, show cl (nI k) = k from hck, show cl (nI w) = w from hcw]; first | (rw [if_pos hw0]; rfl) | (rw [if_neg hw0]; rfl))
    ·
      refine lv_bipush (v := (-2)) hx hb dX1_point_16 (by decide) ?_
      exact ret_i hx hb hr hlocks dX1_point_18 (by first | (simp [pointR, gd, gs, c_4, c_13]; done) | (simp [pointR, gd, gs, c_4]; done))
theorem nf_X1_key : nfOk yX1_key 2 := by unfold nfOk; decide +kernel
set_option maxHeartbeats 4000000 in
set_option maxRecDepth 100000 in
theorem c_X1_key (l : Launch) (D : va_G) (cI cZ : ClassId) (ρ : Nat → Nat) (ts : Nat) (σ : Nat → Nat → Bool) (κ : Int32) (mk : Nat → Int32) (qu : Nat → Int32) (x : Int32) (y : Int32) : Rd l yX1_key wsX1_key ({ frames := 2, cells := 0, slots := 0, locals := 44 }) [.ref (ρ 0), .int x, .int y] (XB D cI cZ ρ ts σ κ mk qu) (keyR x y) := by
  refine met_in RX1 (by decide) rfl rfl (Nat.le_of_ble_eq_true rfl) ?_
  intro p e s m below meth c ls S hr hlocks hl hB
  have hx := S.1
  have hb := S.2.1
  have hml := S.2.2.1
  have hown := S.2.2.2.1
  have hts := S.2.2.2.2
  have hl : lv_has ls 3 [(0, .ref (ρ 0)), (1, .int x), (2, .int y)] := hl
  obtain ⟨⟨held, hRel, hP⟩, hXK⟩ := hB
  have hK := hXK.1
  have hS : va_S (xA 7 ρ) s.heap s.heap [] := va_S.rf
  refine lv_iload_n hx hb dX1_key_0 rfl (lv_at hl 1 rfl) ?_
  refine lv_bipush (v := (-100)) hx hb dX1_key_1 (by decide) ?_
  refine lv_bipush (v := nI 100) hx hb dX1_key_3 (by decide) ?_
  refine rd_S S hl (c_X1_within l x (-100) (nI 100)) HB.tt gX1_key_X1_within rfl nf_X1_within rfl rfl dX1_key_5  (fun _ _ _ => trivial) ?_
  refine nv_ifz_eq (tgt := 22) hx hb dX1_key_8 (by decide) (fun c_8 => ?_) (fun c_8 => ?_)
  ·
    refine lv_bipush (v := (-2)) hx hb dX1_key_22 (by decide) ?_
    exact ret_i hx hb hr hlocks dX1_key_24 (by first | (simp [keyR, gd, gs, c_8, c_19]; done) | (simp [keyR, gd, gs, c_8]; done))
  ·
    obtain ⟨a, ha1, ha2, hxa⟩ := w100 c_8
    subst hxa
    refine lv_iload_n hx hb dX1_key_11 rfl (lv_at hl 2 rfl) ?_
    refine lv_bipush (v := (-100)) hx hb dX1_key_12 (by decide) ?_
    refine lv_bipush (v := nI 100) hx hb dX1_key_14 (by decide) ?_
    refine rd_S S hl (c_X1_within l y (-100) (nI 100)) HB.tt gX1_key_X1_within rfl nf_X1_within rfl rfl dX1_key_16  (fun _ _ _ => trivial) ?_
    refine nv_ifz_ne (tgt := 25) hx hb dX1_key_19 (by decide) (fun c_19 => ?_) (fun c_19 => ?_)
    ·
      obtain ⟨b, hb1, hb2, hxb⟩ := w100 c_19
      subst hxb
      refine lv_aload_n hx hb dX1_key_25 rfl (lv_at hl 0 rfl) ?_
      refine va_get (D := D) (ci := 1) (v := .ref (ρ 1)) (C := RX1) (T := TX1) (N := 5) hx hb hts (by decide +kernel) hown hK hP 0 rfl rfl 0 (by decide) (hts (.fieldLink RX1 10 "SevenKeys" "sheet" "LSevenKeys$Sheet;") (by decide +kernel)) (fun _ h9 => h9) rfl dX1_key_26 ?_
      refine lv_iload_n hx hb dX1_key_29 rfl (lv_at hl 1 rfl) ?_
      refine lv_iload_n hx hb dX1_key_30 rfl (lv_at hl 2 rfl) ?_
      refine rd_V S hl (c_X0_keyOf l D cI cZ ρ ts σ κ mk qu a b (by omega) (by omega)) XB.hb gX1_key_X0_keyOf rfl rfl nf_X0_keyOf rfl rfl dX1_key_31 (XP.rc1 hXK hP) (XB.at hXK hS ⟨held, hRel, hP⟩) ?_
      exact ret_i hx hb hr hlocks dX1_key_34 (by simp [keyR, gd, c_8, c_19, iI_toInt (show -2147483648 ≤ a by omega) (show a < 2147483648 by omega), iI_toInt (show -2147483648 ≤ b by omega) (show b < 2147483648 by omega)])
    ·
      refine lv_bipush (v := (-2)) hx hb dX1_key_22 (by decide) ?_
      exact ret_i hx hb hr hlocks dX1_key_24 (by first | (simp [keyR, gd, gs, c_8, c_19]; done) | (simp [keyR, gd, gs, c_8]; done))
theorem nf_X1_next : nfOk yX1_next 2 := by unfold nfOk; decide +kernel
set_option maxHeartbeats 4000000 in
set_option maxRecDepth 100000 in
theorem c_X1_next (l : Launch) (D : va_G) (cI cZ : ClassId) (ρ : Nat → Nat) (ts : Nat) (σ : Nat → Nat → Bool) (κ : Int32) (mk : Nat → Int32) (qu : Nat → Int32) (x : Int32) (y : Int32) : Rd l yX1_next wsX1_next ({ frames := 2, cells := 0, slots := 0, locals := 43 }) [.ref (ρ 0), .int x, .int y] (XB D cI cZ ρ ts σ κ mk qu) (nextR x y) := by
  refine met_in RX1 (by decide) rfl rfl (Nat.le_of_ble_eq_true rfl) ?_
  intro p e s m below meth c ls S hr hlocks hl hB
  have hx := S.1
  have hb := S.2.1
  have hml := S.2.2.1
  have hown := S.2.2.2.1
  have hts := S.2.2.2.2
  have hl : lv_has ls 3 [(0, .ref (ρ 0)), (1, .int x), (2, .int y)] := hl
  obtain ⟨⟨held, hRel, hP⟩, hXK⟩ := hB
  have hK := hXK.1
  have hS : va_S (xA 7 ρ) s.heap s.heap [] := va_S.rf
  refine lv_iload_n hx hb dX1_next_0 rfl (lv_at hl 1 rfl) ?_
  refine rd_S S hl (c_X1_isKey l x) HB.tt gX1_next_X1_isKey rfl nf_X1_isKey rfl rfl dX1_next_1  (fun _ _ _ => trivial) ?_
  refine nv_ifz_eq (tgt := 17) hx hb dX1_next_4 (by decide) (fun c_4 => ?_) (fun c_4 => ?_)
  ·
    refine lv_bipush (v := (-2)) hx hb dX1_next_17 (by decide) ?_
    exact ret_i hx hb hr hlocks dX1_next_19 (by first | (simp [nextR, gd, gs, c_4, c_14, hck, hcd]; done) | (simp [nextR, gd, gs, c_4, c_14, hck]; done) | (simp [nextR, gd, gs, c_4, c_14]; done) | (simp [nextR, gd, gs, c_4]; done))
  ·
    obtain ⟨k, hk, hxk⟩ := wI_nat c_4 (by decide)
    subst hxk
    have hck : (nI k).toNatClampNeg = k := nI_clamp (by omega)
    refine lv_iload_n hx hb dX1_next_7 rfl (lv_at hl 2 rfl) ?_
    refine lv_iconst (v := nI 1) hx hb dX1_next_8 (by decide) ?_
    refine lv_bipush (v := nI 6) hx hb dX1_next_9 (by decide) ?_
    refine rd_S S hl (c_X1_within l y (nI 1) (nI 6)) HB.tt gX1_next_X1_within rfl nf_X1_within rfl rfl dX1_next_11  (fun _ _ _ => trivial) ?_
    refine nv_ifz_ne (tgt := 20) hx hb dX1_next_14 (by decide) (fun c_14 => ?_) (fun c_14 => ?_)
    ·
      obtain ⟨d, h1d, hd, hxd⟩ := wI_1 c_14 (by decide) (by decide)
      subst hxd
      have hcd : (nI d).toNatClampNeg = d := nI_clamp (by omega)
      refine lv_aload_n hx hb dX1_next_20 rfl (lv_at hl 0 rfl) ?_
      refine va_get (D := D) (ci := 1) (v := .ref (ρ 1)) (C := RX1) (T := TX1) (N := 5) hx hb hts (by decide +kernel) hown hK hP 0 rfl rfl 0 (by decide) (hts (.fieldLink RX1 10 "SevenKeys" "sheet" "LSevenKeys$Sheet;") (by decide +kernel)) (fun _ h9 => h9) rfl dX1_next_21 ?_
      refine lv_iload_n hx hb dX1_next_24 rfl (lv_at hl 1 rfl) ?_
      refine lv_iload_n hx hb dX1_next_25 rfl (lv_at hl 2 rfl) ?_
      refine rd_V S hl (c_X0_neighbour l D cI cZ ρ ts σ κ mk qu k d (by omega) (by omega)) XB.hb gX1_next_X0_neighbour rfl rfl nf_X0_neighbour rfl rfl dX1_next_26 (XP.rc1 hXK hP) (XB.at hXK hS ⟨held, hRel, hP⟩) ?_
      exact ret_i hx hb hr hlocks dX1_next_29 (by first | (simp [nextR, gd, gs, c_4, c_14, hck, hcd]; done) | (simp [nextR, gd, gs, c_4, c_14, hck]; done) | (simp [nextR, gd, gs, c_4, c_14]; done) | (simp [nextR, gd, gs, c_4]; done))
    ·
      refine lv_bipush (v := (-2)) hx hb dX1_next_17 (by decide) ?_
      exact ret_i hx hb hr hlocks dX1_next_19 (by first | (simp [nextR, gd, gs, c_4, c_14, hck, hcd]; done) | (simp [nextR, gd, gs, c_4, c_14, hck]; done) | (simp [nextR, gd, gs, c_4, c_14]; done) | (simp [nextR, gd, gs, c_4]; done))
theorem nf_X1_far : nfOk yX1_far 2 := by unfold nfOk; decide +kernel
set_option maxHeartbeats 4000000 in
set_option maxRecDepth 100000 in
theorem c_X1_far (l : Launch) (D : va_G) (cI cZ : ClassId) (ρ : Nat → Nat) (ts : Nat) (σ : Nat → Nat → Bool) (κ : Int32) (mk : Nat → Int32) (qu : Nat → Int32) (x : Int32) (y : Int32) : Rd l yX1_far wsX1_far ({ frames := 3, cells := 0, slots := 0, locals := 66 }) [.ref (ρ 0), .int x, .int y] (XB D cI cZ ρ ts σ κ mk qu) (farR x y) := by
  refine met_in RX1 (by decide) rfl rfl (Nat.le_of_ble_eq_true rfl) ?_
  intro p e s m below meth c ls S hr hlocks hl hB
  have hx := S.1
  have hb := S.2.1
  have hml := S.2.2.1
  have hown := S.2.2.2.1
  have hts := S.2.2.2.2
  have hl : lv_has ls 3 [(0, .ref (ρ 0)), (1, .int x), (2, .int y)] := hl
  obtain ⟨⟨held, hRel, hP⟩, hXK⟩ := hB
  have hK := hXK.1
  have hS : va_S (xA 7 ρ) s.heap s.heap [] := va_S.rf
  refine lv_iload_n hx hb dX1_far_0 rfl (lv_at hl 1 rfl) ?_
  refine rd_S S hl (c_X1_isKey l x) HB.tt gX1_far_X1_isKey rfl nf_X1_isKey rfl rfl dX1_far_1  (fun _ _ _ => trivial) ?_
  refine nv_ifz_eq (tgt := 14) hx hb dX1_far_4 (by decide) (fun c_4 => ?_) (fun c_4 => ?_)
  ·
    refine lv_bipush (v := (-2)) hx hb dX1_far_14 (by decide) ?_
    exact ret_i hx hb hr hlocks dX1_far_16 (by first | (simp [farR, gd, gs, c_4, c_11, hcj, hck]; done) | (simp [farR, gd, gs, c_4, c_11, hcj]; done) | (simp [farR, gd, gs, c_4, c_11]; done) | (simp [farR, gd, gs, c_4]; done))
  ·
    obtain ⟨j, hj, hxj⟩ := wI_nat c_4 (by decide)
    subst hxj
    have hcj : (nI j).toNatClampNeg = j := nI_clamp (by omega)
    refine lv_iload_n hx hb dX1_far_7 rfl (lv_at hl 2 rfl) ?_
    refine rd_S S hl (c_X1_isKey l y) HB.tt gX1_far_X1_isKey rfl nf_X1_isKey rfl rfl dX1_far_8  (fun _ _ _ => trivial) ?_
    refine nv_ifz_ne (tgt := 17) hx hb dX1_far_11 (by decide) (fun c_11 => ?_) (fun c_11 => ?_)
    ·
      obtain ⟨k, hk, hxk⟩ := wI_nat c_11 (by decide)
      subst hxk
      have hck : (nI k).toNatClampNeg = k := nI_clamp (by omega)
      refine lv_aload_n hx hb dX1_far_17 rfl (lv_at hl 0 rfl) ?_
      refine va_get (D := D) (ci := 1) (v := .ref (ρ 1)) (C := RX1) (T := TX1) (N := 5) hx hb hts (by decide +kernel) hown hK hP 0 rfl rfl 0 (by decide) (hts (.fieldLink RX1 10 "SevenKeys" "sheet" "LSevenKeys$Sheet;") (by decide +kernel)) (fun _ h9 => h9) rfl dX1_far_18 ?_
      refine lv_iload_n hx hb dX1_far_21 rfl (lv_at hl 1 rfl) ?_
      refine lv_iload_n hx hb dX1_far_22 rfl (lv_at hl 2 rfl) ?_
      refine rd_V S hl (c_X0_stepsApart l D cI cZ ρ ts σ κ mk qu j k (by omega) (by omega)) XB.hb gX1_far_X0_stepsApart rfl rfl nf_X0_stepsApart rfl rfl dX1_far_23 (XP.rc1 hXK hP) (XB.at hXK hS ⟨held, hRel, hP⟩) ?_
      exact ret_i hx hb hr hlocks dX1_far_26 (by first | (simp [farR, gd, gs, c_4, c_11, hcj, hck]; done) | (simp [farR, gd, gs, c_4, c_11, hcj]; done) | (simp [farR, gd, gs, c_4, c_11]; done) | (simp [farR, gd, gs, c_4]; done))
    ·
      refine lv_bipush (v := (-2)) hx hb dX1_far_14 (by decide) ?_
      exact ret_i hx hb hr hlocks dX1_far_16 (by first | (simp [farR, gd, gs, c_4, c_11, hcj, hck]; done) | (simp [farR, gd, gs, c_4, c_11, hcj]; done) | (simp [farR, gd, gs, c_4, c_11]; done) | (simp [farR, gd, gs, c_4]; done))
theorem nf_X1_side : nfOk yX1_side 2 := by unfold nfOk; decide +kernel
set_option maxHeartbeats 4000000 in
set_option maxRecDepth 100000 in
theorem c_X1_side (l : Launch) (D : va_G) (cI cZ : ClassId) (ρ : Nat → Nat) (ts : Nat) (σ : Nat → Nat → Bool) (κ : Int32) (mk : Nat → Int32) (qu : Nat → Int32) (x : Int32) (y : Int32) : Rd l yX1_side wsX1_side ({ frames := 2, cells := 0, slots := 0, locals := 43 }) [.ref (ρ 0), .int x, .int y] (XB D cI cZ ρ ts σ κ mk qu) (sideR x y) := by
  refine met_in RX1 (by decide) rfl rfl (Nat.le_of_ble_eq_true rfl) ?_
  intro p e s m below meth c ls S hr hlocks hl hB
  have hx := S.1
  have hb := S.2.1
  have hml := S.2.2.1
  have hown := S.2.2.2.1
  have hts := S.2.2.2.2
  have hl : lv_has ls 4 [(0, .ref (ρ 0)), (1, .int x), (2, .int y)] := hl
  obtain ⟨⟨held, hRel, hP⟩, hXK⟩ := hB
  have hK := hXK.1
  have hS : va_S (xA 7 ρ) s.heap s.heap [] := va_S.rf
  refine lv_iload_n hx hb dX1_side_0 rfl (lv_at hl 1 rfl) ?_
  refine rd_S S hl (c_X1_isKey l x) HB.tt gX1_side_X1_isKey rfl nf_X1_isKey rfl rfl dX1_side_1  (fun _ _ _ => trivial) ?_
  refine nv_ifz_eq (tgt := 14) hx hb dX1_side_4 (by decide) (fun c_4 => ?_) (fun c_4 => ?_)
  ·
    refine lv_bipush (v := (-2)) hx hb dX1_side_14 (by decide) ?_
    exact ret_i hx hb hr hlocks dX1_side_16 (by first | (simp [sideR, gd, gs, c_4, c_11]; done) | (simp [sideR, gd, gs, c_4]; done))
  ·
    obtain ⟨j, hj, hxj⟩ := wI_nat c_4 (by decide)
    subst hxj
    have hcj : (nI j).toNatClampNeg = j := nI_clamp (by omega)
    refine lv_iload_n hx hb dX1_side_7 rfl (lv_at hl 2 rfl) ?_
    refine rd_S S hl (c_X1_isKey l y) HB.tt gX1_side_X1_isKey rfl nf_X1_isKey rfl rfl dX1_side_8  (fun _ _ _ => trivial) ?_
    refine nv_ifz_ne (tgt := 17) hx hb dX1_side_11 (by decide) (fun c_11 => ?_) (fun c_11 => ?_)
    ·
      obtain ⟨k, hk, hxk⟩ := wI_nat c_11 (by decide)
      subst hxk
      have hck : (nI k).toNatClampNeg = k := nI_clamp (by omega)
      refine lv_iconst (v := nI 0) hx hb dX1_side_17 (by decide) ?_
      refine lv_istore_n (lv' := [(3, .int (nI 0)), (0, .ref (ρ 0)), (1, .int (nI j)), (2, .int (nI k))]) hx hb dX1_side_18 rfl hl (by decide) rfl (fun ls hl => ?_)
      have loop_19 : ∀ (n : Nat) (d : Nat), (d ≤ 7) → (∀ e, e < d → nbo j e ≠ some k) → 7 - d < n → ∀ (x3 : Int32), x3 = nI d → ∀ ls : Array Slot, lv_has ls 4 [(0, .ref (ρ 0)), (1, .int (nI j)), (2, .int (nI k)), (3, .int x3)] → W p l e (headSpec wsX1_side ({ frames := 2, cells := 0, slots := 0, locals := 43 })).room s m [.ref (ρ 0), .int (nI j), .int (nI k)].toArray below meth c s.heap [] 0 0 (MQ below (vp_Si (fun r => r = sideR (nI j) (nI k))) [.ref (ρ 0), .int (nI j), .int (nI k)].toArray s 0 0 (fun _ => False)) (F0 m 19 ls []) := by
        intro n
        induction n with
        | zero => intro d hd hno hm; exact absurd hm (Nat.not_lt_zero _)
        | succ n ih_19 =>
          intro d hd hno hm_19 x3 e3 ls hl
          subst e3
          refine lv_iload_n hx hb dX1_side_19 rfl (lv_at hl 3 rfl) ?_
          refine lv_bipush (v := nI 6) hx hb dX1_side_20 (by decide) ?_
          refine nv_icmp_gt (tgt := 46) hx hb dX1_side_22 (by decide) (by omega) (by omega) (fun c_22 => ?_) (fun c_22 => ?_)
          ·
            refine lv_bipush (v := (-6)) hx hb dX1_side_46 (by decide) ?_
            exact ret_i hx hb hr hlocks dX1_side_48 (by simp [sideR, gd, c_4, c_11, hcj, hck, lst_miss (p := sdP j k) (n := 7) (fun e he => decide_eq_false (hno e (by omega)))]; rfl)
          ·
            refine lv_aload_n hx hb dX1_side_25 rfl (lv_at hl 0 rfl) ?_
            refine va_get (D := D) (ci := 1) (v := .ref (ρ 1)) (C := RX1) (T := TX1) (N := 5) hx hb hts (by decide +kernel) hown hK hP 0 rfl rfl 0 (by decide) (hts (.fieldLink RX1 10 "SevenKeys" "sheet" "LSevenKeys$Sheet;") (by decide +kernel)) (fun _ h9 => h9) rfl dX1_side_26 ?_
            refine lv_iload_n hx hb dX1_side_29 rfl (lv_at hl 1 rfl) ?_
            refine lv_iload_n hx hb dX1_side_30 rfl (lv_at hl 3 rfl) ?_
            refine rd_V S hl (c_X0_neighbour l D cI cZ ρ ts σ κ mk qu j d (by omega) (by omega)) XB.hb gX1_side_X0_neighbour rfl rfl nf_X0_neighbour rfl rfl dX1_side_31 (XP.rc1 hXK hP) (XB.at hXK hS ⟨held, hRel, hP⟩) ?_
            refine lv_iload_n hx hb dX1_side_34 rfl (lv_at hl 2 rfl) ?_
            refine lv_icmp_ne (tgt := 40) hx hb dX1_side_35 (by decide) (fun c_35 => ?_) (fun c_35 => ?_)
            ·
              have mis : nbo j d ≠ some k := fun q => c_35 ((oI_eq (fun q h => nbo_lt h) (by omega)).mpr q)
              refine lv_iinc (v := nI (d + 1)) (lv' := [(3, .int (nI (d + 1))), (0, .ref (ρ 0)), (1, .int (nI j)), (2, .int (nI k))]) hx hb dX1_side_40 hl (k := 3) rfl (inc_nI _) (by decide) rfl (fun ls hl => ?_)
              refine lv_goto (tgt := 19) hx hb dX1_side_43 (by decide) ?_
              exact ih_19 (d + 1) (by omega) (by exact lt_s hno mis) (by omega) _ (by first | rfl | exact congrArg nI (by omega)) _ (lv_sub hl [1, 2, 3, 0] rfl)
            ·
              have hit := (oI_eq (fun q h => nbo_lt h) (by omega)).mp c_35
              refine lv_iload_n hx hb dX1_side_38 rfl (lv_at hl 3 rfl) ?_
              exact ret_i hx hb hr hlocks dX1_side_39 (by simp [sideR, gd, c_4, c_11, hcj, hck, sd_hit (show d < 7 by omega) hit])
      exact loop_19 (7 - 0 + 1) 0 (by omega) (by intro e he; omega) (Nat.lt_succ_self _) _ rfl _ (lv_sub hl [1, 2, 3, 0] rfl)
    ·
      refine lv_bipush (v := (-2)) hx hb dX1_side_14 (by decide) ?_
      exact ret_i hx hb hr hlocks dX1_side_16 (by first | (simp [sideR, gd, gs, c_4, c_11]; done) | (simp [sideR, gd, gs, c_4]; done))
theorem nf_X1_patch : nfOk yX1_patch 2 := by unfold nfOk; decide +kernel
set_option maxHeartbeats 4000000 in
set_option maxRecDepth 100000 in
theorem c_X1_patch (l : Launch) (D : va_G) (cI cZ : ClassId) (ρ : Nat → Nat) (ts : Nat) (σ : Nat → Nat → Bool) (κ : Int32) (mk : Nat → Int32) (qu : Nat → Int32) (x : Int32) (y : Int32) : Rd l yX1_patch wsX1_patch ({ frames := 2, cells := 0, slots := 0, locals := 45 }) [.ref (ρ 0), .int x, .int y] (XB D cI cZ ρ ts σ κ mk qu) (patchR x y) := by
  refine met_in RX1 (by decide) rfl rfl (Nat.le_of_ble_eq_true rfl) ?_
  intro p e s m below meth c ls S hr hlocks hl hB
  have hx := S.1
  have hb := S.2.1
  have hml := S.2.2.1
  have hown := S.2.2.2.1
  have hts := S.2.2.2.2
  have hl : lv_has ls 3 [(0, .ref (ρ 0)), (1, .int x), (2, .int y)] := hl
  obtain ⟨⟨held, hRel, hP⟩, hXK⟩ := hB
  have hK := hXK.1
  have hS : va_S (xA 7 ρ) s.heap s.heap [] := va_S.rf
  refine lv_iload_n hx hb dX1_patch_0 rfl (lv_at hl 1 rfl) ?_
  refine rd_S S hl (c_X1_isKey l x) HB.tt gX1_patch_X1_isKey rfl nf_X1_isKey rfl rfl dX1_patch_1  (fun _ _ _ => trivial) ?_
  refine nv_ifz_eq (tgt := 14) hx hb dX1_patch_4 (by decide) (fun c_4 => ?_) (fun c_4 => ?_)
  ·
    refine lv_bipush (v := (-2)) hx hb dX1_patch_14 (by decide) ?_
    exact ret_i hx hb hr hlocks dX1_patch_16 (by first | (simp [patchR, gd, gs, c_4, c_11]; done) | (simp [patchR, gd, gs, c_4]; done))
  ·
    obtain ⟨k, hk, hxk⟩ := wI_nat c_4 (by decide)
    subst hxk
    have hck : (nI k).toNatClampNeg = k := nI_clamp (by omega)
    refine lv_iload_n hx hb dX1_patch_7 rfl (lv_at hl 2 rfl) ?_
    refine rd_S S hl (c_X1_isLevel l y) HB.tt gX1_patch_X1_isLevel rfl nf_X1_isLevel rfl rfl dX1_patch_8  (fun _ _ _ => trivial) ?_
    refine nv_ifz_ne (tgt := 17) hx hb dX1_patch_11 (by decide) (fun c_11 => ?_) (fun c_11 => ?_)
    ·
      obtain ⟨L, hL, hxL⟩ := wI_nat c_11 (by decide)
      subst hxL
      have hcL : (nI L).toNatClampNeg = L := nI_clamp (by omega)
      refine lv_iload_n hx hb dX1_patch_17 rfl (lv_at hl 1 rfl) ?_
      refine lv_iload_n hx hb dX1_patch_18 rfl (lv_at hl 2 rfl) ?_
      refine rd_S S hl (c_X1_patchOf l k L (by omega) (by omega)) HB.tt gX1_patch_X1_patchOf rfl nf_X1_patchOf rfl rfl dX1_patch_19  (fun _ _ _ => trivial) ?_
      exact ret_i hx hb hr hlocks dX1_patch_22 (by simp [patchR, gd, pO, c_4, c_11, hck, hcL])
    ·
      refine lv_bipush (v := (-2)) hx hb dX1_patch_14 (by decide) ?_
      exact ret_i hx hb hr hlocks dX1_patch_16 (by first | (simp [patchR, gd, gs, c_4, c_11]; done) | (simp [patchR, gd, gs, c_4]; done))
theorem nf_X1_ring : nfOk yX1_ring 2 := by unfold nfOk; decide +kernel
set_option maxHeartbeats 4000000 in
set_option maxRecDepth 100000 in
theorem c_X1_ring (l : Launch) (D : va_G) (cI cZ : ClassId) (ρ : Nat → Nat) (ts : Nat) (σ : Nat → Nat → Bool) (κ : Int32) (mk : Nat → Int32) (qu : Nat → Int32) (x : Int32) (y : Int32) : Rd l yX1_ring wsX1_ring ({ frames := 3, cells := 0, slots := 0, locals := 66 }) [.ref (ρ 0), .int x, .int y] (XB D cI cZ ρ ts σ κ mk qu) (ringR x y) := by
  refine met_in RX1 (by decide) rfl rfl (Nat.le_of_ble_eq_true rfl) ?_
  intro p e s m below meth c ls S hr hlocks hl hB
  have hx := S.1
  have hb := S.2.1
  have hml := S.2.2.1
  have hown := S.2.2.2.1
  have hts := S.2.2.2.2
  have hl : lv_has ls 5 [(0, .ref (ρ 0)), (1, .int x), (2, .int y)] := hl
  obtain ⟨⟨held, hRel, hP⟩, hXK⟩ := hB
  have hK := hXK.1
  have hS : va_S (xA 7 ρ) s.heap s.heap [] := va_S.rf
  refine lv_iload_n hx hb dX1_ring_0 rfl (lv_at hl 1 rfl) ?_
  refine rd_S S hl (c_X1_isKey l x) HB.tt gX1_ring_X1_isKey rfl nf_X1_isKey rfl rfl dX1_ring_1  (fun _ _ _ => trivial) ?_
  refine nv_ifz_eq (tgt := 17) hx hb dX1_ring_4 (by decide) (fun c_4 => ?_) (fun c_4 => ?_)
  ·
    refine lv_bipush (v := (-2)) hx hb dX1_ring_17 (by decide) ?_
    exact ret_i hx hb hr hlocks dX1_ring_19 (by first | (simp [ringR, gd, gs, c_4, c_14]; done) | (simp [ringR, gd, gs, c_4]; done))
  ·
    obtain ⟨k, hk, hxk⟩ := wI_nat c_4 (by decide)
    subst hxk
    have hck : (nI k).toNatClampNeg = k := nI_clamp (by omega)
    refine lv_iload_n hx hb dX1_ring_7 rfl (lv_at hl 2 rfl) ?_
    refine lv_iconst (v := nI 0) hx hb dX1_ring_8 (by decide) ?_
    refine lv_bipush (v := nI 70) hx hb dX1_ring_9 (by decide) ?_
    refine rd_S S hl (c_X1_within l y (nI 0) (nI 70)) HB.tt gX1_ring_X1_within rfl nf_X1_within rfl rfl dX1_ring_11  (fun _ _ _ => trivial) ?_
    refine nv_ifz_ne (tgt := 20) hx hb dX1_ring_14 (by decide) (fun c_14 => ?_) (fun c_14 => ?_)
    ·
      obtain ⟨nn, hnn, hyn⟩ := wI_nat c_14 (by decide)
      refine lv_iconst (v := nI 0) hx hb dX1_ring_20 (by decide) ?_
      refine lv_istore_n (lv' := [(3, .int (nI 0)), (0, .ref (ρ 0)), (1, .int (nI k)), (2, .int y)]) hx hb dX1_ring_21 rfl hl (by decide) rfl (fun ls hl => ?_)
      refine lv_iconst (v := nI 0) hx hb dX1_ring_22 (by decide) ?_
      refine lv_istore (lv' := [(4, .int (nI 0)), (3, .int (nI 0)), (0, .ref (ρ 0)), (1, .int (nI k)), (2, .int y)]) hx hb dX1_ring_23 hl (by decide) rfl (fun ls hl => ?_)
      have loop_25 : ∀ (n : Nat) (i : Nat), (i ≤ 2401) → 2401 - i < n → ∀ (x3 x4 : Int32), x3 = nI (fb_ct (fun j => decide (farI k j = y)) i) → x4 = nI i → ∀ ls : Array Slot, lv_has ls 5 [(0, .ref (ρ 0)), (1, .int (nI k)), (2, .int y), (3, .int x3), (4, .int x4)] → W p l e (headSpec wsX1_ring ({ frames := 3, cells := 0, slots := 0, locals := 66 })).room s m [.ref (ρ 0), .int (nI k), .int y].toArray below meth c s.heap [] 0 0 (MQ below (vp_Si (fun r => r = ringR (nI k) y)) [.ref (ρ 0), .int (nI k), .int y].toArray s 0 0 (fun _ => False)) (F0 m 25 ls []) := by
        intro n
        induction n with
        | zero => intro i hi hm; exact absurd hm (Nat.not_lt_zero _)
        | succ n ih_25 =>
          intro i hi hm_25 x3 x4 e3 e4 ls hl
          subst e3
          subst e4
          refine lv_iload hx hb dX1_ring_25 (lv_at hl 4 rfl) ?_
          refine lv_sipush (v := nI 2401) hx hb dX1_ring_27 (by decide) ?_
          refine nv_icmp_ge (tgt := 56) hx hb dX1_ring_30 (by decide) (by omega) (by omega) (fun c_30 => ?_) (fun c_30 => ?_)
          ·
            refine lv_iload_n hx hb dX1_ring_56 rfl (lv_at hl 3 rfl) ?_
            exact ret_i hx hb hr hlocks dX1_ring_57 (by simp [ringR, gd, c_4, c_14, hck, show i = 2401 by omega])
          ·
            refine lv_aload_n hx hb dX1_ring_33 rfl (lv_at hl 0 rfl) ?_
            refine va_get (D := D) (ci := 1) (v := .ref (ρ 1)) (C := RX1) (T := TX1) (N := 5) hx hb hts (by decide +kernel) hown hK hP 0 rfl rfl 0 (by decide) (hts (.fieldLink RX1 10 "SevenKeys" "sheet" "LSevenKeys$Sheet;") (by decide +kernel)) (fun _ h9 => h9) rfl dX1_ring_34 ?_
            refine lv_iload_n hx hb dX1_ring_37 rfl (lv_at hl 1 rfl) ?_
            refine lv_iload hx hb dX1_ring_38 (lv_at hl 4 rfl) ?_
            refine rd_V S hl (c_X0_stepsApart l D cI cZ ρ ts σ κ mk qu k i (by omega) (by omega)) XB.hb gX1_ring_X0_stepsApart rfl rfl nf_X0_stepsApart rfl rfl dX1_ring_40 (XP.rc1 hXK hP) (XB.at hXK hS ⟨held, hRel, hP⟩) ?_
            refine lv_iload_n hx hb dX1_ring_43 rfl (lv_at hl 2 rfl) ?_
            refine lv_icmp_ne (tgt := 50) hx hb dX1_ring_44 (by decide) (fun c_44 => ?_) (fun c_44 => ?_)
            ·
              have hh : decide (farI k i = y) = false := decide_eq_false c_44
              refine lv_iinc (v := nI (i + 1)) (lv' := [(4, .int (nI (i + 1))), (0, .ref (ρ 0)), (1, .int (nI k)), (2, .int y), (3, .int (nI (fb_ct (fun j => decide (farI k j = y)) i)))]) hx hb dX1_ring_50 hl (k := 4) rfl (inc_nI _) (by decide) rfl (fun ls hl => ?_)
              refine lv_goto (tgt := 25) hx hb dX1_ring_53 (by decide) ?_
              exact ih_25 (i + 1) (by omega) (by omega) _ _ (by rw [fb_ct_succ, hh]; rfl) (by first | rfl | exact congrArg nI (by omega)) _ (lv_sub hl [1, 2, 3, 4, 0] rfl)
            ·
              have hh : decide (farI k i = y) = true := decide_eq_true c_44
              refine lv_iinc (v := nI (fb_ct (fun j => decide (farI k j = y)) i + 1)) (lv' := [(3, .int (nI (fb_ct (fun j => decide (farI k j = y)) i + 1))), (0, .ref (ρ 0)), (1, .int (nI k)), (2, .int y), (4, .int (nI i))]) hx hb dX1_ring_47 hl (k := 3) rfl (inc_nI _) (by decide) rfl (fun ls hl => ?_)
              refine lv_iinc (v := nI (i + 1)) (lv' := [(4, .int (nI (i + 1))), (3, .int (nI (fb_ct (fun j => decide (farI k j = y)) i + 1))), (0, .ref (ρ 0)), (1, .int (nI k)), (2, .int y)]) hx hb dX1_ring_50 hl (k := 4) rfl (inc_nI _) (by decide) rfl (fun ls hl => ?_)
              refine lv_goto (tgt := 25) hx hb dX1_ring_53 (by decide) ?_
              exact ih_25 (i + 1) (by omega) (by omega) _ _ (by rw [fb_ct_succ, hh]; rfl) (by first | rfl | exact congrArg nI (by omega)) _ (lv_sub hl [2, 3, 4, 1, 0] rfl)
      exact loop_25 (2401 - 0 + 1) 0 (by omega) (Nat.lt_succ_self _) _ _ (by first | rfl | exact congrArg nI (by omega)) rfl _ (lv_sub hl [2, 3, 4, 1, 0] rfl)
    ·
      refine lv_bipush (v := (-2)) hx hb dX1_ring_17 (by decide) ?_
      exact ret_i hx hb hr hlocks dX1_ring_19 (by first | (simp [ringR, gd, gs, c_4, c_14]; done) | (simp [ringR, gd, gs, c_4]; done))
end
section
theorem nf_X1_holds : nfOk yX1_holds 2 := by unfold nfOk; decide +kernel
set_option maxHeartbeats 4000000 in
set_option maxRecDepth 100000 in
theorem c_X1_holds (l : Launch) (D : va_G) (cI cZ : ClassId) (ρ : Nat → Nat) (ts : Nat) (σ : Nat → Nat → Bool) (κ : Int32) (mk : Nat → Int32) (qu : Nat → Int32) (sl : Nat) (o : Option Nat) (hsl : sl < 4) (ho : ∀ j, o = some j → j < 2401) : Rd l yX1_holds wsX1_holds ({ frames := 0, cells := 0, slots := 0, locals := 0 }) [.ref (ρ 0), .int (nI sl), .int (oI o)] (XB D cI cZ ρ ts σ κ mk qu) (bI (inS (σ sl) o)) := by
  refine met_in RX1 (by decide) rfl rfl (Nat.le_of_ble_eq_true rfl) ?_
  intro p e s m below meth c ls S hr hlocks hl hB
  have hx := S.1
  have hb := S.2.1
  have hml := S.2.2.1
  have hown := S.2.2.2.1
  have hts := S.2.2.2.2
  have hl : lv_has ls 3 [(0, .ref (ρ 0)), (1, .int (nI sl)), (2, .int (oI o))] := hl
  obtain ⟨⟨held, hRel, hP⟩, hXK⟩ := hB
  have hK := hXK.1
  have hS : va_S (xA 7 ρ) s.heap s.heap [] := va_S.rf
  rcases o with _ | k
  ·
    refine lv_iconst (v := nI 0) hx hb dX1_holds_0 (by decide) ?_
    refine lv_iload_n hx hb dX1_holds_1 rfl (lv_at hl 2 rfl) ?_
    refine lv_icmp_gt (tgt := 32) hx hb dX1_holds_2 (by decide) (fun c_2 => ?_) (fun c_2 => ?_)
    ·
      refine lv_iconst (v := nI 0) hx hb dX1_holds_32 (by decide) ?_
      exact ret_z hx hb hr hlocks dX1_holds_33 (by first | rfl | (show _ = bI (σ sl k); rw [cc]; rfl))
    ·
      exact absurd (by decide) c_2
  ·
    have hk := ho k rfl
    have hl : lv_has ls 3 [(0, .ref (ρ 0)), (1, .int (nI sl)), (2, .int (nI k))] := hl
    refine lv_iconst (v := nI 0) hx hb dX1_holds_0 (by decide) ?_
    refine lv_iload_n hx hb dX1_holds_1 rfl (lv_at hl 2 rfl) ?_
    refine nv_icmp_gt (tgt := 32) hx hb dX1_holds_2 (by decide) (by omega) (by omega) (fun c_2 => ?_) (fun c_2 => ?_)
    ·
      omega
    ·
      refine lv_iload_n hx hb dX1_holds_5 rfl (lv_at hl 2 rfl) ?_
      refine lv_aload_n hx hb dX1_holds_6 rfl (lv_at hl 0 rfl) ?_
      refine va_get (D := D) (ci := 1) (v := .ref (ρ 2)) (C := RX1) (T := TX1) (N := 5) hx hb hts (by decide +kernel) hown hK hP 0 rfl rfl 1 (by decide) (hts (.fieldLink RX1 16 "SevenKeys" "held" "[I") (by decide +kernel)) (fun _ h9 => h9) rfl dX1_holds_7 ?_
      refine va_alen hx hb hK hP 2 0 rfl rfl (v := nI 2401) rfl dX1_holds_10 ?_
      refine nv_icmp_ge (tgt := 32) hx hb dX1_holds_11 (by decide) (by omega) (by omega) (fun c_11 => ?_) (fun c_11 => ?_)
      ·
        omega
      ·
        refine lv_aload_n hx hb dX1_holds_14 rfl (lv_at hl 0 rfl) ?_
        refine va_get (D := D) (ci := 1) (v := .ref (ρ 2)) (C := RX1) (T := TX1) (N := 5) hx hb hts (by decide +kernel) hown hK hP 0 rfl rfl 1 (by decide) (hts (.fieldLink RX1 16 "SevenKeys" "held" "[I") (by decide +kernel)) (fun _ h9 => h9) rfl dX1_holds_15 ?_
        refine lv_iload_n hx hb dX1_holds_18 rfl (lv_at hl 2 rfl) ?_
        refine nv_iald hx hb hK hP 2 0 rfl rfl (by omega) (by decide) dX1_holds_19 ?_
        refine lv_iload_n hx hb dX1_holds_20 rfl (lv_at hl 1 rfl) ?_
        refine lv_ishr hx hb dX1_holds_21 ?_
        refine lv_iconst (v := nI 1) hx hb dX1_holds_22 (by decide) ?_
        refine lv_iand hx hb dX1_holds_23 ?_
        refine nv_as (bI (σ sl k)) (by exact hold_leaf hRel hsl hk) ?_
        refine lv_iconst (v := nI 1) hx hb dX1_holds_24 (by decide) ?_
        refine lv_icmp_ne (tgt := 32) hx hb dX1_holds_25 (by decide) (fun c_25 => ?_) (fun c_25 => ?_)
        ·
          have cc := bI_not1 c_25
          refine lv_iconst (v := nI 0) hx hb dX1_holds_32 (by decide) ?_
          exact ret_z hx hb hr hlocks dX1_holds_33 (by first | rfl | (show _ = bI (σ sl k); rw [cc]; rfl))
        ·
          have cc := bI_is1 c_25
          refine lv_iconst (v := nI 1) hx hb dX1_holds_28 (by decide) ?_
          refine lv_goto (tgt := 33) hx hb dX1_holds_29 (by decide) ?_
          exact ret_z hx hb hr hlocks dX1_holds_33 (by first | rfl | (show _ = bI (σ sl k); rw [cc]; rfl))
theorem nf_X1_place : nfOk yX1_place 3 := by unfold nfOk; decide +kernel
set_option maxHeartbeats 4000000 in
set_option maxRecDepth 100000 in
theorem c_X1_place (l : Launch) (D : va_G) (cI cZ : ClassId) (ρ : Nat → Nat) (ts : Nat) (σ : Nat → Nat → Bool) (κ : Int32) (mk : Nat → Int32) (qu : Nat → Int32) (sl : Nat) (k : Nat) (b : Bool) (hsl : sl < 4) (hk : k < 2401) : Wr l yX1_place wsX1_place ({ frames := 0, cells := 0, slots := 0, locals := 0 }) [.ref (ρ 0), .int (nI sl), .int (nI k), .int (bI b)] (XB D cI cZ ρ ts σ κ mk qu) none (XP D cI ρ (stS σ sl k b) κ mk qu) (xA 7 ρ) := by
  refine met_in RX1 (by decide) rfl rfl (Nat.le_of_ble_eq_true rfl) ?_
  intro p e s m below meth c ls S hr hlocks hl hB
  have hx := S.1
  have hb := S.2.1
  have hml := S.2.2.1
  have hown := S.2.2.2.1
  have hts := S.2.2.2.2
  have hl : lv_has ls 5 [(0, .ref (ρ 0)), (1, .int (nI sl)), (2, .int (nI k)), (3, .int (bI b))] := hl
  obtain ⟨⟨held, hRel, hP⟩, hXK⟩ := hB
  have hK := hXK.1
  have hS : va_S (xA 7 ρ) s.heap s.heap [] := va_S.rf
  refine lv_iconst (v := nI 0) hx hb dX1_place_0 (by decide) ?_
  refine lv_iload_n hx hb dX1_place_1 rfl (lv_at hl 2 rfl) ?_
  refine nv_icmp_gt (tgt := 49) hx hb dX1_place_2 (by decide) (by omega) (by omega) (fun c_2 => ?_) (fun c_2 => ?_)
  ·
    omega
  ·
    refine lv_iload_n hx hb dX1_place_5 rfl (lv_at hl 2 rfl) ?_
    refine lv_aload_n hx hb dX1_place_6 rfl (lv_at hl 0 rfl) ?_
    refine va_get (D := D) (ci := 1) (v := .ref (ρ 2)) (C := RX1) (T := TX1) (N := 5) hx hb hts (by decide +kernel) hown hK hP 0 rfl rfl 1 (by decide) (hts (.fieldLink RX1 16 "SevenKeys" "held" "[I") (by decide +kernel)) (fun _ h9 => h9) rfl dX1_place_7 ?_
    refine va_alen hx hb hK hP 2 0 rfl rfl (v := nI 2401) rfl dX1_place_10 ?_
    refine nv_icmp_ge (tgt := 49) hx hb dX1_place_11 (by decide) (by omega) (by omega) (fun c_11 => ?_) (fun c_11 => ?_)
    ·
      omega
    ·
      refine lv_aload_n hx hb dX1_place_14 rfl (lv_at hl 0 rfl) ?_
      refine va_get (D := D) (ci := 1) (v := .ref (ρ 2)) (C := RX1) (T := TX1) (N := 5) hx hb hts (by decide +kernel) hown hK hP 0 rfl rfl 1 (by decide) (hts (.fieldLink RX1 16 "SevenKeys" "held" "[I") (by decide +kernel)) (fun _ h9 => h9) rfl dX1_place_15 ?_
      refine lv_iload_n hx hb dX1_place_18 rfl (lv_at hl 2 rfl) ?_
      refine nv_iald hx hb hK hP 2 0 rfl rfl (by omega) (by decide) dX1_place_19 ?_
      refine lv_iconst (v := nI 1) hx hb dX1_place_20 (by decide) ?_
      refine lv_iload_n hx hb dX1_place_21 rfl (lv_at hl 1 rfl) ?_
      refine lv_ishl hx hb dX1_place_22 ?_
      refine lv_iconst (v := (-1)) hx hb dX1_place_23 (by decide) ?_
      refine lv_ixor hx hb dX1_place_24 ?_
      refine lv_iand hx hb dX1_place_25 ?_
      refine lv_istore (lv' := [(4, .int ((held k) &&& (((nI 1) <<< ((nI sl) &&& 31)) ^^^ (-1)))), (0, .ref (ρ 0)), (1, .int (nI sl)), (2, .int (nI k)), (3, .int (bI b))]) hx hb dX1_place_26 hl (by decide) rfl (fun ls hl => ?_)
      refine lv_aload_n hx hb dX1_place_28 rfl (lv_at hl 1 rfl) ?_
      refine va_get (D := D) (ci := 1) (v := .ref (ρ 2)) (C := RX1) (T := TX1) (N := 5) hx hb hts (by decide +kernel) hown hK hP 0 rfl rfl 1 (by decide) (hts (.fieldLink RX1 16 "SevenKeys" "held" "[I") (by decide +kernel)) (fun _ h9 => h9) rfl dX1_place_29 ?_
      refine lv_iload_n hx hb dX1_place_32 rfl (lv_at hl 3 rfl) ?_
      refine lv_iload_n hx hb dX1_place_33 rfl (lv_at hl 4 rfl) ?_
      refine nv_ifz_eq (tgt := 46) hx hb dX1_place_34 (by decide) (fun c_34 => ?_) (fun c_34 => ?_)
      ·
        refine lv_iload hx hb dX1_place_46 (lv_at hl 0 rfl) ?_
        refine nv_iast hx hb hK hP hXK.D hS 2 0 rfl rfl (by omega) (by decide) dX1_place_48 (fun H locs hP hS => ?_)
        have hP : va_P D vwCl (xW cI ρ (upd held k ((held k) &&& (((nI 1) <<< ((nI sl) &&& 31)) ^^^ (-1)))) κ mk qu) H := hP
        exact ret_wv hx hb hr hlocks dX1_place_49 hS (⟨_, by first | (rw [c_34]; exact place_t hRel hsl) | (rw [c_34]; exact place_f hRel hsl), hP⟩)
      ·
        refine lv_iload hx hb dX1_place_37 (lv_at hl 0 rfl) ?_
        refine lv_iconst (v := nI 1) hx hb dX1_place_39 (by decide) ?_
        refine lv_iload_n hx hb dX1_place_40 rfl (lv_at hl 2 rfl) ?_
        refine lv_ishl hx hb dX1_place_41 ?_
        refine lv_ior hx hb dX1_place_42 ?_
        refine lv_goto (tgt := 48) hx hb dX1_place_43 (by decide) ?_
        refine nv_iast hx hb hK hP hXK.D hS 2 0 rfl rfl (by omega) (by decide) dX1_place_48 (fun H locs hP hS => ?_)
        have hP : va_P D vwCl (xW cI ρ (upd held k (((held k) &&& (((nI 1) <<< ((nI sl) &&& 31)) ^^^ (-1))) ||| ((nI 1) <<< ((nI sl) &&& 31)))) κ mk qu) H := hP
        exact ret_wv hx hb hr hlocks dX1_place_49 hS (⟨_, by first | (rw [c_34]; exact place_t hRel hsl) | (rw [c_34]; exact place_f hRel hsl), hP⟩)
theorem nf_X1_sizeOf : nfOk yX1_sizeOf 1 := by unfold nfOk; decide +kernel
set_option maxHeartbeats 4000000 in
set_option maxRecDepth 100000 in
theorem c_X1_sizeOf (l : Launch) (D : va_G) (cI cZ : ClassId) (ρ : Nat → Nat) (ts : Nat) (σ : Nat → Nat → Bool) (κ : Int32) (mk : Nat → Int32) (qu : Nat → Int32) (sl : Nat) (hsl : sl < 4) : Rd l yX1_sizeOf wsX1_sizeOf ({ frames := 1, cells := 0, slots := 0, locals := 22 }) [.ref (ρ 0), .int (nI sl)] (XB D cI cZ ρ ts σ κ mk qu) (nI (fb_ct (σ sl) 2401)) := by
  refine met_in RX1 (by decide) rfl rfl (Nat.le_of_ble_eq_true rfl) ?_
  intro p e s m below meth c ls S hr hlocks hl hB
  have hx := S.1
  have hb := S.2.1
  have hml := S.2.2.1
  have hown := S.2.2.2.1
  have hts := S.2.2.2.2
  have hl : lv_has ls 4 [(0, .ref (ρ 0)), (1, .int (nI sl))] := hl
  obtain ⟨⟨held, hRel, hP⟩, hXK⟩ := hB
  have hK := hXK.1
  have hS : va_S (xA 7 ρ) s.heap s.heap [] := va_S.rf
  refine lv_iconst (v := nI 0) hx hb dX1_sizeOf_0 (by decide) ?_
  refine lv_istore_n (lv' := [(2, .int (nI 0)), (0, .ref (ρ 0)), (1, .int (nI sl))]) hx hb dX1_sizeOf_1 rfl hl (by decide) rfl (fun ls hl => ?_)
  refine lv_iconst (v := nI 0) hx hb dX1_sizeOf_2 (by decide) ?_
  refine lv_istore_n (lv' := [(3, .int (nI 0)), (2, .int (nI 0)), (0, .ref (ρ 0)), (1, .int (nI sl))]) hx hb dX1_sizeOf_3 rfl hl (by decide) rfl (fun ls hl => ?_)
  have loop_4 : ∀ (n : Nat) (i : Nat), (i ≤ 2401) → 2401 - i < n → ∀ (x2 x3 : Int32), x2 = nI (fb_ct (σ sl) i) → x3 = nI i → ∀ ls : Array Slot, lv_has ls 4 [(0, .ref (ρ 0)), (1, .int (nI sl)), (2, .int x2), (3, .int x3)] → W p l e (headSpec wsX1_sizeOf ({ frames := 1, cells := 0, slots := 0, locals := 22 })).room s m [.ref (ρ 0), .int (nI sl)].toArray below meth c s.heap [] 0 0 (MQ below (vp_Si (fun r => r = nI (fb_ct (σ sl) 2401))) [.ref (ρ 0), .int (nI sl)].toArray s 0 0 (fun _ => False)) (F0 m 4 ls []) := by
    intro n
    induction n with
    | zero => intro i hi hm; exact absurd hm (Nat.not_lt_zero _)
    | succ n ih_4 =>
      intro i hi hm_4 x2 x3 e2 e3 ls hl
      subst e2
      subst e3
      refine lv_iload_n hx hb dX1_sizeOf_4 rfl (lv_at hl 3 rfl) ?_
      refine lv_sipush (v := nI 2401) hx hb dX1_sizeOf_5 (by decide) ?_
      refine nv_icmp_ge (tgt := 29) hx hb dX1_sizeOf_8 (by decide) (by omega) (by omega) (fun c_8 => ?_) (fun c_8 => ?_)
      ·
        refine lv_iload_n hx hb dX1_sizeOf_29 rfl (lv_at hl 2 rfl) ?_
        exact ret_i hx hb hr hlocks dX1_sizeOf_30 (by rw [show i = 2401 by omega])
      ·
        refine lv_aload_n hx hb dX1_sizeOf_11 rfl (lv_at hl 0 rfl) ?_
        refine lv_iload_n hx hb dX1_sizeOf_12 rfl (lv_at hl 1 rfl) ?_
        refine lv_iload_n hx hb dX1_sizeOf_13 rfl (lv_at hl 3 rfl) ?_
        refine rd_V S hl (c_X1_holds l D cI cZ ρ ts σ κ mk qu sl (some i) (by omega) (by exact fun j h => by first | exact nbo_lt h | (cases h; omega))) XB.hb gX1_sizeOf_X1_holds rfl rfl nf_X1_holds rfl rfl dX1_sizeOf_14 (XP.rc0 hXK hP) (XB.at hXK hS ⟨held, hRel, hP⟩) ?_
        refine nv_as (bI (σ sl i)) rfl ?_
        refine nv_ifz_eq (tgt := 23) hx hb dX1_sizeOf_17 (by decide) (fun c_17 => ?_) (fun c_17 => ?_)
        ·
          refine lv_iinc (v := nI (i + 1)) (lv' := [(3, .int (nI (i + 1))), (0, .ref (ρ 0)), (1, .int (nI sl)), (2, .int (nI (fb_ct (σ sl) i)))]) hx hb dX1_sizeOf_23 hl (k := 3) rfl (inc_nI _) (by decide) rfl (fun ls hl => ?_)
          refine lv_goto (tgt := 4) hx hb dX1_sizeOf_26 (by decide) ?_
          exact ih_4 (i + 1) (by omega) (by omega) _ _ (by rw [fb_ct_succ, c_17]; rfl) (by first | rfl | exact congrArg nI (by omega)) _ (lv_sub hl [1, 2, 3, 0] rfl)
        ·
          refine lv_iinc (v := nI (fb_ct (σ sl) i + 1)) (lv' := [(2, .int (nI (fb_ct (σ sl) i + 1))), (0, .ref (ρ 0)), (1, .int (nI sl)), (3, .int (nI i))]) hx hb dX1_sizeOf_20 hl (k := 2) rfl (inc_nI _) (by decide) rfl (fun ls hl => ?_)
          refine lv_iinc (v := nI (i + 1)) (lv' := [(3, .int (nI (i + 1))), (2, .int (nI (fb_ct (σ sl) i + 1))), (0, .ref (ρ 0)), (1, .int (nI sl))]) hx hb dX1_sizeOf_23 hl (k := 3) rfl (inc_nI _) (by decide) rfl (fun ls hl => ?_)
          refine lv_goto (tgt := 4) hx hb dX1_sizeOf_26 (by decide) ?_
          exact ih_4 (i + 1) (by omega) (by omega) _ _ (by rw [fb_ct_succ, c_17]; rfl) (by first | rfl | exact congrArg nI (by omega)) _ (lv_sub hl [2, 3, 1, 0] rfl)
  exact loop_4 (2401 - 0 + 1) 0 (by omega) (Nat.lt_succ_self _) _ _ (by first | rfl | exact congrArg nI (by omega)) rfl _ (lv_sub hl [2, 3, 1, 0] rfl)
theorem nf_X1_leastKey : nfOk yX1_leastKey 1 := by unfold nfOk; decide +kernel
set_option maxHeartbeats 4000000 in
set_option maxRecDepth 100000 in
theorem c_X1_leastKey (l : Launch) (D : va_G) (cI cZ : ClassId) (ρ : Nat → Nat) (ts : Nat) (σ : Nat → Nat → Bool) (κ : Int32) (mk : Nat → Int32) (qu : Nat → Int32) (sl : Nat) (hsl : sl < 4) : Rd l yX1_leastKey wsX1_leastKey ({ frames := 1, cells := 0, slots := 0, locals := 22 }) [.ref (ρ 0), .int (nI sl)] (XB D cI cZ ρ ts σ κ mk qu) (oI (loK (σ sl) 2401)) := by
  refine met_in RX1 (by decide) rfl rfl (Nat.le_of_ble_eq_true rfl) ?_
  intro p e s m below meth c ls S hr hlocks hl hB
  have hx := S.1
  have hb := S.2.1
  have hml := S.2.2.1
  have hown := S.2.2.2.1
  have hts := S.2.2.2.2
  have hl : lv_has ls 3 [(0, .ref (ρ 0)), (1, .int (nI sl))] := hl
  obtain ⟨⟨held, hRel, hP⟩, hXK⟩ := hB
  have hK := hXK.1
  have hS : va_S (xA 7 ρ) s.heap s.heap [] := va_S.rf
  refine lv_iconst (v := nI 0) hx hb dX1_leastKey_0 (by decide) ?_
  refine lv_istore_n (lv' := [(2, .int (nI 0)), (0, .ref (ρ 0)), (1, .int (nI sl))]) hx hb dX1_leastKey_1 rfl hl (by decide) rfl (fun ls hl => ?_)
  have loop_2 : ∀ (n : Nat) (i : Nat), (i ≤ 2401) → (∀ j, j < i → σ sl j = false) → 2401 - i < n → ∀ (x2 : Int32), x2 = nI i → ∀ ls : Array Slot, lv_has ls 3 [(0, .ref (ρ 0)), (1, .int (nI sl)), (2, .int x2)] → W p l e (headSpec wsX1_leastKey ({ frames := 1, cells := 0, slots := 0, locals := 22 })).room s m [.ref (ρ 0), .int (nI sl)].toArray below meth c s.heap [] 0 0 (MQ below (vp_Si (fun r => r = oI (loK (σ sl) 2401))) [.ref (ρ 0), .int (nI sl)].toArray s 0 0 (fun _ => False)) (F0 m 2 ls []) := by
    intro n
    induction n with
    | zero => intro i hi hno hm; exact absurd hm (Nat.not_lt_zero _)
    | succ n ih_2 =>
      intro i hi hno hm_2 x2 e2 ls hl
      subst e2
      refine lv_iload_n hx hb dX1_leastKey_2 rfl (lv_at hl 2 rfl) ?_
      refine lv_sipush (v := nI 2401) hx hb dX1_leastKey_3 (by decide) ?_
      refine nv_icmp_ge (tgt := 26) hx hb dX1_leastKey_6 (by decide) (by omega) (by omega) (fun c_6 => ?_) (fun c_6 => ?_)
      ·
        refine lv_bipush (v := (-6)) hx hb dX1_leastKey_26 (by decide) ?_
        exact ret_i hx hb hr hlocks dX1_leastKey_28 (by rw [loK_none (fun j _ h2 => hno j (by omega)) (by omega)]; rfl)
      ·
        refine lv_aload_n hx hb dX1_leastKey_9 rfl (lv_at hl 0 rfl) ?_
        refine lv_iload_n hx hb dX1_leastKey_10 rfl (lv_at hl 1 rfl) ?_
        refine lv_iload_n hx hb dX1_leastKey_11 rfl (lv_at hl 2 rfl) ?_
        refine rd_V S hl (c_X1_holds l D cI cZ ρ ts σ κ mk qu sl (some i) (by omega) (by exact fun j h => by first | exact nbo_lt h | (cases h; omega))) XB.hb gX1_leastKey_X1_holds rfl rfl nf_X1_holds rfl rfl dX1_leastKey_12 (XP.rc0 hXK hP) (XB.at hXK hS ⟨held, hRel, hP⟩) ?_
        refine nv_as (bI (σ sl i)) rfl ?_
        refine nv_ifz_eq (tgt := 20) hx hb dX1_leastKey_15 (by decide) (fun c_15 => ?_) (fun c_15 => ?_)
        ·
          refine lv_iinc (v := nI (i + 1)) (lv' := [(2, .int (nI (i + 1))), (0, .ref (ρ 0)), (1, .int (nI sl))]) hx hb dX1_leastKey_20 hl (k := 2) rfl (inc_nI _) (by decide) rfl (fun ls hl => ?_)
          refine lv_goto (tgt := 2) hx hb dX1_leastKey_23 (by decide) ?_
          exact ih_2 (i + 1) (by omega) (by exact lt_s hno c_15) (by omega) _ (by first | rfl | exact congrArg nI (by omega)) _ (lv_sub hl [1, 2, 0] rfl)
        ·
          refine lv_iload_n hx hb dX1_leastKey_18 rfl (lv_at hl 2 rfl) ?_
          exact ret_i hx hb hr hlocks dX1_leastKey_19 (by rw [loK_some c_15 (by omega) hno (by omega) (by omega)]; rfl)
  exact loop_2 (2401 - 0 + 1) 0 (by omega) (by exact lt_0) (Nat.lt_succ_self _) _ rfl _ (lv_sub hl [1, 2, 0] rfl)
theorem nf_X1_greatestKey : nfOk yX1_greatestKey 1 := by unfold nfOk; decide +kernel
set_option maxHeartbeats 4000000 in
set_option maxRecDepth 100000 in
theorem c_X1_greatestKey (l : Launch) (D : va_G) (cI cZ : ClassId) (ρ : Nat → Nat) (ts : Nat) (σ : Nat → Nat → Bool) (κ : Int32) (mk : Nat → Int32) (qu : Nat → Int32) (sl : Nat) (hsl : sl < 4) : Rd l yX1_greatestKey wsX1_greatestKey ({ frames := 1, cells := 0, slots := 0, locals := 22 }) [.ref (ρ 0), .int (nI sl)] (XB D cI cZ ρ ts σ κ mk qu) (oI (lst (σ sl) 2401)) := by
  refine met_in RX1 (by decide) rfl rfl (Nat.le_of_ble_eq_true rfl) ?_
  intro p e s m below meth c ls S hr hlocks hl hB
  have hx := S.1
  have hb := S.2.1
  have hml := S.2.2.1
  have hown := S.2.2.2.1
  have hts := S.2.2.2.2
  have hl : lv_has ls 3 [(0, .ref (ρ 0)), (1, .int (nI sl))] := hl
  obtain ⟨⟨held, hRel, hP⟩, hXK⟩ := hB
  have hK := hXK.1
  have hS : va_S (xA 7 ρ) s.heap s.heap [] := va_S.rf
  refine lv_sipush (v := nI 2400) hx hb dX1_greatestKey_0 (by decide) ?_
  refine lv_istore_n (lv' := [(2, .int (nI 2400)), (0, .ref (ρ 0)), (1, .int (nI sl))]) hx hb dX1_greatestKey_3 rfl hl (by decide) rfl (fun ls hl => ?_)
  have loop_4 : ∀ (n : Nat) (t : Nat), (t ≤ 2401) → (∀ j, t ≤ j → j < 2401 → σ sl j = false) → t < n → ∀ (x2 : Int32), x2 = mI t → ∀ ls : Array Slot, lv_has ls 3 [(0, .ref (ρ 0)), (1, .int (nI sl)), (2, .int x2)] → W p l e (headSpec wsX1_greatestKey ({ frames := 1, cells := 0, slots := 0, locals := 22 })).room s m [.ref (ρ 0), .int (nI sl)].toArray below meth c s.heap [] 0 0 (MQ below (vp_Si (fun r => r = oI (lst (σ sl) 2401))) [.ref (ρ 0), .int (nI sl)].toArray s 0 0 (fun _ => False)) (F0 m 4 ls []) := by
    intro n
    induction n with
    | zero => intro t ht hno hm; exact absurd hm (Nat.not_lt_zero _)
    | succ n ih_4 =>
      intro t ht hno hm_4 x2 e2 ls hl
      subst e2
      rcases t with _ | j
      ·
        refine lv_iload_n hx hb dX1_greatestKey_4 rfl (lv_at hl 2 rfl) ?_
        refine lv_if_lt (tgt := 25) hx hb dX1_greatestKey_5 (by decide) (fun c_5 => ?_) (fun c_5 => ?_)
        ·
          refine lv_bipush (v := (-6)) hx hb dX1_greatestKey_25 (by decide) ?_
          exact ret_i hx hb hr hlocks dX1_greatestKey_27 (by rw [lst_pos (t := 0) (by omega) hno]; rfl)
        ·
          exact absurd (by decide) c_5
      ·
        have hl : lv_has ls 3 [(0, .ref (ρ 0)), (1, .int (nI sl)), (2, .int (nI j))] := hl
        refine lv_iload_n hx hb dX1_greatestKey_4 rfl (lv_at hl 2 rfl) ?_
        refine lv_if_lt (tgt := 25) hx hb dX1_greatestKey_5 (by decide) (fun c_5 => ?_) (fun c_5 => ?_)
        ·
          exact absurd c_5 (nI_pos (by omega))
        ·
          refine lv_aload_n hx hb dX1_greatestKey_8 rfl (lv_at hl 0 rfl) ?_
          refine lv_iload_n hx hb dX1_greatestKey_9 rfl (lv_at hl 1 rfl) ?_
          refine lv_iload_n hx hb dX1_greatestKey_10 rfl (lv_at hl 2 rfl) ?_
          refine rd_V S hl (c_X1_holds l D cI cZ ρ ts σ κ mk qu sl (some j) (by omega) (by exact fun j h => by first | exact nbo_lt h | (cases h; omega))) XB.hb gX1_greatestKey_X1_holds rfl rfl nf_X1_holds rfl rfl dX1_greatestKey_11 (XP.rc0 hXK hP) (XB.at hXK hS ⟨held, hRel, hP⟩) ?_
          refine nv_as (bI (σ sl j)) rfl ?_
          refine nv_ifz_eq (tgt := 19) hx hb dX1_greatestKey_14 (by decide) (fun c_14 => ?_) (fun c_14 => ?_)
          ·
            refine lv_iinc (v := mI j) (lv' := [(2, .int (mI j)), (0, .ref (ρ 0)), (1, .int (nI sl))]) hx hb dX1_greatestKey_19 hl (k := 2) rfl (by exact mI_dec j) (by decide) rfl (fun ls hl => ?_)
            refine lv_goto (tgt := 4) hx hb dX1_greatestKey_22 (by decide) ?_
            exact ih_4 j (by omega) (by exact no_step hno c_14) (by omega) _ (by rfl) _ (lv_sub hl [1, 2, 0] rfl)
          ·
            refine lv_iload_n hx hb dX1_greatestKey_17 rfl (lv_at hl 2 rfl) ?_
            exact ret_i hx hb hr hlocks dX1_greatestKey_18 (by rw [lst_pos (t := j + 1) (by omega) hno, lst, if_pos c_14]; rfl)
  exact loop_4 (2401 + 1) 2401 (by omega) (by intro j h1 h2; omega) (Nat.lt_succ_self _) _ (by rfl) _ (lv_sub hl [1, 2, 0] rfl)
theorem nf_X1_countHeldByAny : nfOk yX1_countHeldByAny 0 := by unfold nfOk; decide +kernel
set_option maxHeartbeats 4000000 in
set_option maxRecDepth 100000 in
theorem c_X1_countHeldByAny (l : Launch) (D : va_G) (cI cZ : ClassId) (ρ : Nat → Nat) (ts : Nat) (σ : Nat → Nat → Bool) (κ : Int32) (mk : Nat → Int32) (qu : Nat → Int32) : Rd l yX1_countHeldByAny wsX1_countHeldByAny ({ frames := 0, cells := 0, slots := 0, locals := 0 }) [.ref (ρ 0)] (XB D cI cZ ρ ts σ κ mk qu) (nI (fb_ct (anyP σ) 2401)) := by
  refine met_in RX1 (by decide) rfl rfl (Nat.le_of_ble_eq_true rfl) ?_
  intro p e s m below meth c ls S hr hlocks hl hB
  have hx := S.1
  have hb := S.2.1
  have hml := S.2.2.1
  have hown := S.2.2.2.1
  have hts := S.2.2.2.2
  have hl : lv_has ls 3 [(0, .ref (ρ 0))] := hl
  obtain ⟨⟨held, hRel, hP⟩, hXK⟩ := hB
  have hK := hXK.1
  have hS : va_S (xA 7 ρ) s.heap s.heap [] := va_S.rf
  refine lv_iconst (v := nI 0) hx hb dX1_countHeldByAny_0 (by decide) ?_
  refine lv_istore_n (lv' := [(1, .int (nI 0)), (0, .ref (ρ 0))]) hx hb dX1_countHeldByAny_1 rfl hl (by decide) rfl (fun ls hl => ?_)
  refine lv_iconst (v := nI 0) hx hb dX1_countHeldByAny_2 (by decide) ?_
  refine lv_istore_n (lv' := [(2, .int (nI 0)), (1, .int (nI 0)), (0, .ref (ρ 0))]) hx hb dX1_countHeldByAny_3 rfl hl (by decide) rfl (fun ls hl => ?_)
  have loop_4 : ∀ (n : Nat) (i : Nat), (i ≤ 2401) → 2401 - i < n → ∀ (x1 x2 : Int32), x1 = nI (fb_ct (anyP σ) i) → x2 = nI i → ∀ ls : Array Slot, lv_has ls 3 [(0, .ref (ρ 0)), (1, .int x1), (2, .int x2)] → W p l e (headSpec wsX1_countHeldByAny ({ frames := 0, cells := 0, slots := 0, locals := 0 })).room s m [.ref (ρ 0)].toArray below meth c s.heap [] 0 0 (MQ below (vp_Si (fun r => r = nI (fb_ct (anyP σ) 2401))) [.ref (ρ 0)].toArray s 0 0 (fun _ => False)) (F0 m 4 ls []) := by
    intro n
    induction n with
    | zero => intro i hi hm; exact absurd hm (Nat.not_lt_zero _)
    | succ n ih_4 =>
      intro i hi hm_4 x1 x2 e1 e2 ls hl
      subst e1
      subst e2
      refine lv_iload_n hx hb dX1_countHeldByAny_4 rfl (lv_at hl 2 rfl) ?_
      refine lv_aload_n hx hb dX1_countHeldByAny_5 rfl (lv_at hl 0 rfl) ?_
      refine va_get (D := D) (ci := 1) (v := .ref (ρ 2)) (C := RX1) (T := TX1) (N := 5) hx hb hts (by decide +kernel) hown hK hP 0 rfl rfl 1 (by decide) (hts (.fieldLink RX1 16 "SevenKeys" "held" "[I") (by decide +kernel)) (fun _ h9 => h9) rfl dX1_countHeldByAny_6 ?_
      refine va_alen hx hb hK hP 2 0 rfl rfl (v := nI 2401) rfl dX1_countHeldByAny_9 ?_
      refine nv_icmp_ge (tgt := 34) hx hb dX1_countHeldByAny_10 (by decide) (by omega) (by omega) (fun c_10 => ?_) (fun c_10 => ?_)
      ·
        refine lv_iload_n hx hb dX1_countHeldByAny_34 rfl (lv_at hl 1 rfl) ?_
        exact ret_i hx hb hr hlocks dX1_countHeldByAny_35 (by rw [show i = 2401 by omega])
      ·
        refine lv_aload_n hx hb dX1_countHeldByAny_13 rfl (lv_at hl 0 rfl) ?_
        refine va_get (D := D) (ci := 1) (v := .ref (ρ 2)) (C := RX1) (T := TX1) (N := 5) hx hb hts (by decide +kernel) hown hK hP 0 rfl rfl 1 (by decide) (hts (.fieldLink RX1 16 "SevenKeys" "held" "[I") (by decide +kernel)) (fun _ h9 => h9) rfl dX1_countHeldByAny_14 ?_
        refine lv_iload_n hx hb dX1_countHeldByAny_17 rfl (lv_at hl 2 rfl) ?_
        refine nv_iald hx hb hK hP 2 0 rfl rfl (by omega) (by decide) dX1_countHeldByAny_18 ?_
        refine lv_bipush (v := nI 15) hx hb dX1_countHeldByAny_19 (by decide) ?_
        refine lv_iand hx hb dX1_countHeldByAny_21 ?_
        refine lv_if_eq (tgt := 28) hx hb dX1_countHeldByAny_22 (by decide) (fun c_22 => ?_) (fun c_22 => ?_)
        ·
          have cc : anyP σ i = false := (any4 hRel (by omega)).mp c_22
          refine lv_iinc (v := nI (i + 1)) (lv' := [(2, .int (nI (i + 1))), (0, .ref (ρ 0)), (1, .int (nI (fb_ct (anyP σ) i)))]) hx hb dX1_countHeldByAny_28 hl (k := 2) rfl (inc_nI _) (by decide) rfl (fun ls hl => ?_)
          refine lv_goto (tgt := 4) hx hb dX1_countHeldByAny_31 (by decide) ?_
          exact ih_4 (i + 1) (by omega) (by omega) _ _ (by rw [fb_ct_succ, cc]; rfl) (by first | rfl | exact congrArg nI (by omega)) _ (lv_sub hl [1, 2, 0] rfl)
        ·
          have cc : anyP σ i = true := by cases q : anyP σ i with | true => rfl | false => exact absurd ((any4 hRel (by omega)).mpr q) c_22
          refine lv_iinc (v := nI (fb_ct (anyP σ) i + 1)) (lv' := [(1, .int (nI (fb_ct (anyP σ) i + 1))), (0, .ref (ρ 0)), (2, .int (nI i))]) hx hb dX1_countHeldByAny_25 hl (k := 1) rfl (inc_nI _) (by decide) rfl (fun ls hl => ?_)
          refine lv_iinc (v := nI (i + 1)) (lv' := [(2, .int (nI (i + 1))), (1, .int (nI (fb_ct (anyP σ) i + 1))), (0, .ref (ρ 0))]) hx hb dX1_countHeldByAny_28 hl (k := 2) rfl (inc_nI _) (by decide) rfl (fun ls hl => ?_)
          refine lv_goto (tgt := 4) hx hb dX1_countHeldByAny_31 (by decide) ?_
          exact ih_4 (i + 1) (by omega) (by omega) _ _ (by rw [fb_ct_succ, cc]; rfl) (by first | rfl | exact congrArg nI (by omega)) _ (lv_sub hl [2, 1, 0] rfl)
  exact loop_4 (2401 - 0 + 1) 0 (by omega) (Nat.lt_succ_self _) _ _ (by first | rfl | exact congrArg nI (by omega)) rfl _ (lv_sub hl [2, 1, 0] rfl)
theorem nf_X1_countNeighbours : nfOk yX1_countNeighbours 2 := by unfold nfOk; decide +kernel
set_option maxHeartbeats 4000000 in
set_option maxRecDepth 100000 in
theorem c_X1_countNeighbours (l : Launch) (D : va_G) (cI cZ : ClassId) (ρ : Nat → Nat) (ts : Nat) (σ : Nat → Nat → Bool) (κ : Int32) (mk : Nat → Int32) (qu : Nat → Int32) (sl : Nat) (k : Nat) (hsl : sl < 4) (hk : k < 2401) : Rd l yX1_countNeighbours wsX1_countNeighbours ({ frames := 2, cells := 0, slots := 0, locals := 43 }) [.ref (ρ 0), .int (nI sl), .int (nI k)] (XB D cI cZ ρ ts σ κ mk qu) (nI (nbc (σ sl) k)) := by
  refine met_in RX1 (by decide) rfl rfl (Nat.le_of_ble_eq_true rfl) ?_
  intro p e s m below meth c ls S hr hlocks hl hB
  have hx := S.1
  have hb := S.2.1
  have hml := S.2.2.1
  have hown := S.2.2.2.1
  have hts := S.2.2.2.2
  have hl : lv_has ls 5 [(0, .ref (ρ 0)), (1, .int (nI sl)), (2, .int (nI k))] := hl
  obtain ⟨⟨held, hRel, hP⟩, hXK⟩ := hB
  have hK := hXK.1
  have hS : va_S (xA 7 ρ) s.heap s.heap [] := va_S.rf
  refine lv_iconst (v := nI 0) hx hb dX1_countNeighbours_0 (by decide) ?_
  refine lv_istore_n (lv' := [(3, .int (nI 0)), (0, .ref (ρ 0)), (1, .int (nI sl)), (2, .int (nI k))]) hx hb dX1_countNeighbours_1 rfl hl (by decide) rfl (fun ls hl => ?_)
  refine lv_iconst (v := nI 1) hx hb dX1_countNeighbours_2 (by decide) ?_
  refine lv_istore (lv' := [(4, .int (nI 1)), (3, .int (nI 0)), (0, .ref (ρ 0)), (1, .int (nI sl)), (2, .int (nI k))]) hx hb dX1_countNeighbours_3 hl (by decide) rfl (fun ls hl => ?_)
  have loop_5 : ∀ (n : Nat) (d : Nat), (d ≤ 6) → 6 - d < n → ∀ (x3 x4 : Int32), x3 = nI (fb_ct (fun d => inS (σ sl) (nbo k (d + 1))) d) → x4 = nI (d + 1) → ∀ ls : Array Slot, lv_has ls 5 [(0, .ref (ρ 0)), (1, .int (nI sl)), (2, .int (nI k)), (3, .int x3), (4, .int x4)] → W p l e (headSpec wsX1_countNeighbours ({ frames := 2, cells := 0, slots := 0, locals := 43 })).room s m [.ref (ρ 0), .int (nI sl), .int (nI k)].toArray below meth c s.heap [] 0 0 (MQ below (vp_Si (fun r => r = nI (nbc (σ sl) k))) [.ref (ρ 0), .int (nI sl), .int (nI k)].toArray s 0 0 (fun _ => False)) (F0 m 5 ls []) := by
    intro n
    induction n with
    | zero => intro d hd hm; exact absurd hm (Nat.not_lt_zero _)
    | succ n ih_5 =>
      intro d hd hm_5 x3 x4 e3 e4 ls hl
      subst e3
      subst e4
      refine lv_iload hx hb dX1_countNeighbours_5 (lv_at hl 4 rfl) ?_
      refine lv_bipush (v := nI 6) hx hb dX1_countNeighbours_7 (by decide) ?_
      refine nv_icmp_gt (tgt := 39) hx hb dX1_countNeighbours_9 (by decide) (by omega) (by omega) (fun c_9 => ?_) (fun c_9 => ?_)
      ·
        refine lv_iload_n hx hb dX1_countNeighbours_39 rfl (lv_at hl 3 rfl) ?_
        exact ret_i hx hb hr hlocks dX1_countNeighbours_40 (by rw [show d = 6 by omega]; rfl)
      ·
        refine lv_aload_n hx hb dX1_countNeighbours_12 rfl (lv_at hl 0 rfl) ?_
        refine lv_iload_n hx hb dX1_countNeighbours_13 rfl (lv_at hl 1 rfl) ?_
        refine lv_aload_n hx hb dX1_countNeighbours_14 rfl (lv_at hl 0 rfl) ?_
        refine va_get (D := D) (ci := 1) (v := .ref (ρ 1)) (C := RX1) (T := TX1) (N := 5) hx hb hts (by decide +kernel) hown hK hP 0 rfl rfl 0 (by decide) (hts (.fieldLink RX1 10 "SevenKeys" "sheet" "LSevenKeys$Sheet;") (by decide +kernel)) (fun _ h9 => h9) rfl dX1_countNeighbours_15 ?_
        refine lv_iload_n hx hb dX1_countNeighbours_18 rfl (lv_at hl 2 rfl) ?_
        refine lv_iload hx hb dX1_countNeighbours_19 (lv_at hl 4 rfl) ?_
        refine rd_V S hl (c_X0_neighbour l D cI cZ ρ ts σ κ mk qu k (d + 1) (by omega) (by omega)) XB.hb gX1_countNeighbours_X0_neighbour rfl rfl nf_X0_neighbour rfl rfl dX1_countNeighbours_21 (XP.rc1 hXK hP) (XB.at hXK hS ⟨held, hRel, hP⟩) ?_
        refine rd_V S hl (c_X1_holds l D cI cZ ρ ts σ κ mk qu sl (nbo k (d + 1)) (by omega) (by exact fun j h => by first | exact nbo_lt h | (cases h; omega))) XB.hb gX1_countNeighbours_X1_holds rfl rfl nf_X1_holds rfl rfl dX1_countNeighbours_24 (XP.rc0 hXK hP) (XB.at hXK hS ⟨held, hRel, hP⟩) ?_
        refine nv_ifz_eq (tgt := 33) hx hb dX1_countNeighbours_27 (by decide) (fun c_27 => ?_) (fun c_27 => ?_)
        ·
          refine lv_iinc (v := nI (d + 1 + 1)) (lv' := [(4, .int (nI (d + 1 + 1))), (0, .ref (ρ 0)), (1, .int (nI sl)), (2, .int (nI k)), (3, .int (nI (fb_ct (fun d => inS (σ sl) (nbo k (d + 1))) d)))]) hx hb dX1_countNeighbours_33 hl (k := 4) rfl (inc_nI _) (by decide) rfl (fun ls hl => ?_)
          refine lv_goto (tgt := 5) hx hb dX1_countNeighbours_36 (by decide) ?_
          exact ih_5 (d + 1) (by omega) (by omega) _ _ (by rw [fb_ct_succ, c_27]; rfl) (by first | rfl | exact congrArg nI (by omega)) _ (lv_sub hl [1, 2, 3, 4, 0] rfl)
        ·
          refine lv_iinc (v := nI (fb_ct (fun d => inS (σ sl) (nbo k (d + 1))) d + 1)) (lv' := [(3, .int (nI (fb_ct (fun d => inS (σ sl) (nbo k (d + 1))) d + 1))), (0, .ref (ρ 0)), (1, .int (nI sl)), (2, .int (nI k)), (4, .int (nI (d + 1)))]) hx hb dX1_countNeighbours_30 hl (k := 3) rfl (inc_nI _) (by decide) rfl (fun ls hl => ?_)
          refine lv_iinc (v := nI (d + 1 + 1)) (lv' := [(4, .int (nI (d + 1 + 1))), (3, .int (nI (fb_ct (fun d => inS (σ sl) (nbo k (d + 1))) d + 1))), (0, .ref (ρ 0)), (1, .int (nI sl)), (2, .int (nI k))]) hx hb dX1_countNeighbours_33 hl (k := 4) rfl (inc_nI _) (by decide) rfl (fun ls hl => ?_)
          refine lv_goto (tgt := 5) hx hb dX1_countNeighbours_36 (by decide) ?_
          exact ih_5 (d + 1) (by omega) (by omega) _ _ (by rw [fb_ct_succ, c_27]; rfl) (by first | rfl | exact congrArg nI (by omega)) _ (lv_sub hl [2, 3, 4, 1, 0] rfl)
  exact loop_5 (6 - 0 + 1) 0 (by omega) (Nat.lt_succ_self _) _ _ (by first | rfl | exact congrArg nI (by omega)) (by first | rfl | exact congrArg nI (by omega)) _ (lv_sub hl [2, 3, 4, 1, 0] rfl)
theorem nf_X1_isOfOrNextTo : nfOk yX1_isOfOrNextTo 2 := by unfold nfOk; decide +kernel
set_option maxHeartbeats 4000000 in
set_option maxRecDepth 100000 in
theorem c_X1_isOfOrNextTo (l : Launch) (D : va_G) (cI cZ : ClassId) (ρ : Nat → Nat) (ts : Nat) (σ : Nat → Nat → Bool) (κ : Int32) (mk : Nat → Int32) (qu : Nat → Int32) (sl : Nat) (k : Nat) (hsl : sl < 4) (hk : k < 2401) : Rd l yX1_isOfOrNextTo wsX1_isOfOrNextTo ({ frames := 3, cells := 0, slots := 0, locals := 67 }) [.ref (ρ 0), .int (nI sl), .int (nI k)] (XB D cI cZ ρ ts σ κ mk qu) (bI (σ sl k || decide (0 < nbc (σ sl) k))) := by
  refine met_in RX1 (by decide) rfl rfl (Nat.le_of_ble_eq_true rfl) ?_
  intro p e s m below meth c ls S hr hlocks hl hB
  have hx := S.1
  have hb := S.2.1
  have hml := S.2.2.1
  have hown := S.2.2.2.1
  have hts := S.2.2.2.2
  have hl : lv_has ls 3 [(0, .ref (ρ 0)), (1, .int (nI sl)), (2, .int (nI k))] := hl
  obtain ⟨⟨held, hRel, hP⟩, hXK⟩ := hB
  have hK := hXK.1
  have hS : va_S (xA 7 ρ) s.heap s.heap [] := va_S.rf
  refine lv_aload_n hx hb dX1_isOfOrNextTo_0 rfl (lv_at hl 0 rfl) ?_
  refine lv_iload_n hx hb dX1_isOfOrNextTo_1 rfl (lv_at hl 1 rfl) ?_
  refine lv_iload_n hx hb dX1_isOfOrNextTo_2 rfl (lv_at hl 2 rfl) ?_
  refine rd_V S hl (c_X1_holds l D cI cZ ρ ts σ κ mk qu sl (some k) (by omega) (by exact fun j h => by first | exact nbo_lt h | (cases h; omega))) XB.hb gX1_isOfOrNextTo_X1_holds rfl rfl nf_X1_holds rfl rfl dX1_isOfOrNextTo_3 (XP.rc0 hXK hP) (XB.at hXK hS ⟨held, hRel, hP⟩) ?_
  refine nv_as (bI (σ sl k)) rfl ?_
  refine nv_ifz_ne (tgt := 18) hx hb dX1_isOfOrNextTo_6 (by decide) (fun c_6 => ?_) (fun c_6 => ?_)
  ·
    refine lv_iconst (v := nI 1) hx hb dX1_isOfOrNextTo_18 (by decide) ?_
    refine lv_goto (tgt := 23) hx hb dX1_isOfOrNextTo_19 (by decide) ?_
    exact ret_z hx hb hr hlocks dX1_isOfOrNextTo_23 (by first | (rw [c_6]; rfl) | (rw [c_6, decide_eq_true cc]; rfl) | (rw [c_6, decide_eq_false cc]; rfl))
  ·
    refine lv_aload_n hx hb dX1_isOfOrNextTo_9 rfl (lv_at hl 0 rfl) ?_
    refine lv_iload_n hx hb dX1_isOfOrNextTo_10 rfl (lv_at hl 1 rfl) ?_
    refine lv_iload_n hx hb dX1_isOfOrNextTo_11 rfl (lv_at hl 2 rfl) ?_
    refine rd_V S hl (c_X1_countNeighbours l D cI cZ ρ ts σ κ mk qu sl k (by omega) (by omega)) XB.hb gX1_isOfOrNextTo_X1_countNeighbours rfl rfl nf_X1_countNeighbours rfl rfl dX1_isOfOrNextTo_12 (XP.rc0 hXK hP) (XB.at hXK hS ⟨held, hRel, hP⟩) ?_
    refine lv_if_le (tgt := 22) hx hb dX1_isOfOrNextTo_15 (by decide) (fun c_15 => ?_) (fun c_15 => ?_)
    ·
      have cc : ¬ 0 < nbc (σ sl) k := fun q => absurd c_15 (nI_nle q (Nat.lt_of_le_of_lt (nbc_le _ _) (by decide)))
      refine lv_iconst (v := nI 0) hx hb dX1_isOfOrNextTo_22 (by decide) ?_
      exact ret_z hx hb hr hlocks dX1_isOfOrNextTo_23 (by first | (rw [c_6]; rfl) | (rw [c_6, decide_eq_true cc]; rfl) | (rw [c_6, decide_eq_false cc]; rfl))
    ·
      have cc : 0 < nbc (σ sl) k := Nat.pos_of_ne_zero (fun q => c_15 (by rw [q]; decide))
      refine lv_iconst (v := nI 1) hx hb dX1_isOfOrNextTo_18 (by decide) ?_
      refine lv_goto (tgt := 23) hx hb dX1_isOfOrNextTo_19 (by decide) ?_
      exact ret_z hx hb hr hlocks dX1_isOfOrNextTo_23 (by first | (rw [c_6]; rfl) | (rw [c_6, decide_eq_true cc]; rfl) | (rw [c_6, decide_eq_false cc]; rfl))
theorem nf_X1_isDeepIn : nfOk yX1_isDeepIn 2 := by unfold nfOk; decide +kernel
set_option maxHeartbeats 4000000 in
set_option maxRecDepth 100000 in
theorem c_X1_isDeepIn (l : Launch) (D : va_G) (cI cZ : ClassId) (ρ : Nat → Nat) (ts : Nat) (σ : Nat → Nat → Bool) (κ : Int32) (mk : Nat → Int32) (qu : Nat → Int32) (sl : Nat) (k : Nat) (hsl : sl < 4) (hk : k < 2401) : Rd l yX1_isDeepIn wsX1_isDeepIn ({ frames := 3, cells := 0, slots := 0, locals := 67 }) [.ref (ρ 0), .int (nI sl), .int (nI k)] (XB D cI cZ ρ ts σ κ mk qu) (bI (σ sl k && decide (nbc (σ sl) k = 6))) := by
  refine met_in RX1 (by decide) rfl rfl (Nat.le_of_ble_eq_true rfl) ?_
  intro p e s m below meth c ls S hr hlocks hl hB
  have hx := S.1
  have hb := S.2.1
  have hml := S.2.2.1
  have hown := S.2.2.2.1
  have hts := S.2.2.2.2
  have hl : lv_has ls 3 [(0, .ref (ρ 0)), (1, .int (nI sl)), (2, .int (nI k))] := hl
  obtain ⟨⟨held, hRel, hP⟩, hXK⟩ := hB
  have hK := hXK.1
  have hS : va_S (xA 7 ρ) s.heap s.heap [] := va_S.rf
  refine lv_aload_n hx hb dX1_isDeepIn_0 rfl (lv_at hl 0 rfl) ?_
  refine lv_iload_n hx hb dX1_isDeepIn_1 rfl (lv_at hl 1 rfl) ?_
  refine lv_iload_n hx hb dX1_isDeepIn_2 rfl (lv_at hl 2 rfl) ?_
  refine rd_V S hl (c_X1_holds l D cI cZ ρ ts σ κ mk qu sl (some k) (by omega) (by exact fun j h => by first | exact nbo_lt h | (cases h; omega))) XB.hb gX1_isDeepIn_X1_holds rfl rfl nf_X1_holds rfl rfl dX1_isDeepIn_3 (XP.rc0 hXK hP) (XB.at hXK hS ⟨held, hRel, hP⟩) ?_
  refine nv_as (bI (σ sl k)) rfl ?_
  refine nv_ifz_eq (tgt := 24) hx hb dX1_isDeepIn_6 (by decide) (fun c_6 => ?_) (fun c_6 => ?_)
  ·
    refine lv_iconst (v := nI 0) hx hb dX1_isDeepIn_24 (by decide) ?_
    exact ret_z hx hb hr hlocks dX1_isDeepIn_25 (by first | (rw [c_6, decide_eq_true c_17]; rfl) | (rw [c_6, decide_eq_false c_17]; rfl) | (rw [c_6]; rfl))
  ·
    refine lv_aload_n hx hb dX1_isDeepIn_9 rfl (lv_at hl 0 rfl) ?_
    refine lv_iload_n hx hb dX1_isDeepIn_10 rfl (lv_at hl 1 rfl) ?_
    refine lv_iload_n hx hb dX1_isDeepIn_11 rfl (lv_at hl 2 rfl) ?_
    refine rd_V S hl (c_X1_countNeighbours l D cI cZ ρ ts σ κ mk qu sl k (by omega) (by omega)) XB.hb gX1_isDeepIn_X1_countNeighbours rfl rfl nf_X1_countNeighbours rfl rfl dX1_isDeepIn_12 (XP.rc0 hXK hP) (XB.at hXK hS ⟨held, hRel, hP⟩) ?_
    refine lv_bipush (v := nI 6) hx hb dX1_isDeepIn_15 (by decide) ?_
    refine nv_icmp_ne (tgt := 24) hx hb dX1_isDeepIn_17 (by decide) (by exact Nat.lt_of_le_of_lt (nbc_le _ _) (by decide)) (by omega) (fun c_17 => ?_) (fun c_17 => ?_)
    ·
      refine lv_iconst (v := nI 0) hx hb dX1_isDeepIn_24 (by decide) ?_
      exact ret_z hx hb hr hlocks dX1_isDeepIn_25 (by first | (rw [c_6, decide_eq_true c_17]; rfl) | (rw [c_6, decide_eq_false c_17]; rfl) | (rw [c_6]; rfl))
    ·
      refine lv_iconst (v := nI 1) hx hb dX1_isDeepIn_20 (by decide) ?_
      refine lv_goto (tgt := 25) hx hb dX1_isDeepIn_21 (by decide) ?_
      exact ret_z hx hb hr hlocks dX1_isDeepIn_25 (by first | (rw [c_6, decide_eq_true c_17]; rfl) | (rw [c_6, decide_eq_false c_17]; rfl) | (rw [c_6]; rfl))
theorem nf_X1_borderOf : nfOk yX1_borderOf 1 := by unfold nfOk; decide +kernel
set_option maxHeartbeats 4000000 in
set_option maxRecDepth 100000 in
theorem c_X1_borderOf (l : Launch) (D : va_G) (cI cZ : ClassId) (ρ : Nat → Nat) (ts : Nat) (σ : Nat → Nat → Bool) (κ : Int32) (mk : Nat → Int32) (qu : Nat → Int32) (sl : Nat) (hsl : sl < 4) : Rd l yX1_borderOf wsX1_borderOf ({ frames := 3, cells := 0, slots := 0, locals := 67 }) [.ref (ρ 0), .int (nI sl)] (XB D cI cZ ρ ts σ κ mk qu) (nI (bdr (σ sl) 2401)) := by
  refine met_in RX1 (by decide) rfl rfl (Nat.le_of_ble_eq_true rfl) ?_
  intro p e s m below meth c ls S hr hlocks hl hB
  have hx := S.1
  have hb := S.2.1
  have hml := S.2.2.1
  have hown := S.2.2.2.1
  have hts := S.2.2.2.2
  have hl : lv_has ls 4 [(0, .ref (ρ 0)), (1, .int (nI sl))] := hl
  obtain ⟨⟨held, hRel, hP⟩, hXK⟩ := hB
  have hK := hXK.1
  have hS : va_S (xA 7 ρ) s.heap s.heap [] := va_S.rf
  refine lv_iconst (v := nI 0) hx hb dX1_borderOf_0 (by decide) ?_
  refine lv_istore_n (lv' := [(2, .int (nI 0)), (0, .ref (ρ 0)), (1, .int (nI sl))]) hx hb dX1_borderOf_1 rfl hl (by decide) rfl (fun ls hl => ?_)
  refine lv_iconst (v := nI 0) hx hb dX1_borderOf_2 (by decide) ?_
  refine lv_istore_n (lv' := [(3, .int (nI 0)), (2, .int (nI 0)), (0, .ref (ρ 0)), (1, .int (nI sl))]) hx hb dX1_borderOf_3 rfl hl (by decide) rfl (fun ls hl => ?_)
  have loop_4 : ∀ (n : Nat) (i : Nat), (i ≤ 2401) → 2401 - i < n → ∀ (x2 x3 : Int32), x2 = nI (bdr (σ sl) i) → x3 = nI i → ∀ ls : Array Slot, lv_has ls 4 [(0, .ref (ρ 0)), (1, .int (nI sl)), (2, .int x2), (3, .int x3)] → W p l e (headSpec wsX1_borderOf ({ frames := 3, cells := 0, slots := 0, locals := 67 })).room s m [.ref (ρ 0), .int (nI sl)].toArray below meth c s.heap [] 0 0 (MQ below (vp_Si (fun r => r = nI (bdr (σ sl) 2401))) [.ref (ρ 0), .int (nI sl)].toArray s 0 0 (fun _ => False)) (F0 m 4 ls []) := by
    intro n
    induction n with
    | zero => intro i hi hm; exact absurd hm (Nat.not_lt_zero _)
    | succ n ih_4 =>
      intro i hi hm_4 x2 x3 e2 e3 ls hl
      subst e2
      subst e3
      refine lv_iload_n hx hb dX1_borderOf_4 rfl (lv_at hl 3 rfl) ?_
      refine lv_sipush (v := nI 2401) hx hb dX1_borderOf_5 (by decide) ?_
      refine nv_icmp_ge (tgt := 38) hx hb dX1_borderOf_8 (by decide) (by omega) (by omega) (fun c_8 => ?_) (fun c_8 => ?_)
      ·
        refine lv_iload_n hx hb dX1_borderOf_38 rfl (lv_at hl 2 rfl) ?_
        exact ret_i hx hb hr hlocks dX1_borderOf_39 (by rw [show i = 2401 by omega])
      ·
        refine lv_aload_n hx hb dX1_borderOf_11 rfl (lv_at hl 0 rfl) ?_
        refine lv_iload_n hx hb dX1_borderOf_12 rfl (lv_at hl 1 rfl) ?_
        refine lv_iload_n hx hb dX1_borderOf_13 rfl (lv_at hl 3 rfl) ?_
        refine rd_V S hl (c_X1_holds l D cI cZ ρ ts σ κ mk qu sl (some i) (by omega) (by exact fun j h => by first | exact nbo_lt h | (cases h; omega))) XB.hb gX1_borderOf_X1_holds rfl rfl nf_X1_holds rfl rfl dX1_borderOf_14 (XP.rc0 hXK hP) (XB.at hXK hS ⟨held, hRel, hP⟩) ?_
        refine nv_as (bI (σ sl i)) rfl ?_
        refine nv_ifz_eq (tgt := 32) hx hb dX1_borderOf_17 (by decide) (fun c_17 => ?_) (fun c_17 => ?_)
        ·
          refine lv_iinc (v := nI (i + 1)) (lv' := [(3, .int (nI (i + 1))), (0, .ref (ρ 0)), (1, .int (nI sl)), (2, .int (nI (bdr (σ sl) i)))]) hx hb dX1_borderOf_32 hl (k := 3) rfl (inc_nI _) (by decide) rfl (fun ls hl => ?_)
          refine lv_goto (tgt := 4) hx hb dX1_borderOf_35 (by decide) ?_
          exact ih_4 (i + 1) (by omega) (by omega) _ _ (by first | (rw [bdr, bdr, fb_sm_succ, if_pos c_17]) | (rw [bdr, bdr, fb_sm_succ, if_neg (by rw [c_17]; decide)]; rfl)) (by first | rfl | exact congrArg nI (by omega)) _ (lv_sub hl [1, 2, 3, 0] rfl)
        ·
          refine lv_iload_n hx hb dX1_borderOf_20 rfl (lv_at hl 2 rfl) ?_
          refine lv_bipush (v := nI 6) hx hb dX1_borderOf_21 (by decide) ?_
          refine lv_aload_n hx hb dX1_borderOf_23 rfl (lv_at hl 0 rfl) ?_
          refine lv_iload_n hx hb dX1_borderOf_24 rfl (lv_at hl 1 rfl) ?_
          refine lv_iload_n hx hb dX1_borderOf_25 rfl (lv_at hl 3 rfl) ?_
          refine rd_V S hl (c_X1_countNeighbours l D cI cZ ρ ts σ κ mk qu sl i (by omega) (by omega)) XB.hb gX1_borderOf_X1_countNeighbours rfl rfl nf_X1_countNeighbours rfl rfl dX1_borderOf_26 (XP.rc0 hXK hP) (XB.at hXK hS ⟨held, hRel, hP⟩) ?_
          refine lv_isub hx hb dX1_borderOf_29 ?_
          refine nv_as (nI (6 - nbc (σ sl) i)) (by exact pk_sub (nbc_le _ _)) ?_
          refine lv_iadd hx hb dX1_borderOf_30 ?_
          refine nv_as (nI (bdr (σ sl) i + (6 - nbc (σ sl) i))) (nI_add _ _) ?_
          refine lv_istore_n (lv' := [(2, .int (nI (bdr (σ sl) i + (6 - nbc (σ sl) i)))), (0, .ref (ρ 0)), (1, .int (nI sl)), (3, .int (nI i))]) hx hb dX1_borderOf_31 rfl hl (by decide) rfl (fun ls hl => ?_)
          refine lv_iinc (v := nI (i + 1)) (lv' := [(3, .int (nI (i + 1))), (2, .int (nI (bdr (σ sl) i + (6 - nbc (σ sl) i)))), (0, .ref (ρ 0)), (1, .int (nI sl))]) hx hb dX1_borderOf_32 hl (k := 3) rfl (inc_nI _) (by decide) rfl (fun ls hl => ?_)
          refine lv_goto (tgt := 4) hx hb dX1_borderOf_35 (by decide) ?_
          exact ih_4 (i + 1) (by omega) (by omega) _ _ (by first | (rw [bdr, bdr, fb_sm_succ, if_pos c_17]) | (rw [bdr, bdr, fb_sm_succ, if_neg (by rw [c_17]; decide)]; rfl)) (by first | rfl | exact congrArg nI (by omega)) _ (lv_sub hl [2, 3, 1, 0] rfl)
  exact loop_4 (2401 - 0 + 1) 0 (by omega) (Nat.lt_succ_self _) _ _ (by first | rfl | exact congrArg nI (by omega)) rfl _ (lv_sub hl [2, 3, 1, 0] rfl)
theorem nf_X1_has : nfOk yX1_has 2 := by unfold nfOk; decide +kernel
set_option maxHeartbeats 4000000 in
set_option maxRecDepth 100000 in
theorem c_X1_has (l : Launch) (D : va_G) (cI cZ : ClassId) (ρ : Nat → Nat) (ts : Nat) (σ : Nat → Nat → Bool) (κ : Int32) (mk : Nat → Int32) (qu : Nat → Int32) (a : Int32) (x : Int32) : Rd l yX1_has wsX1_has ({ frames := 2, cells := 0, slots := 0, locals := 42 }) [.ref (ρ 0), .int a, .int x] (XB D cI cZ ρ ts σ κ mk qu) (hasR σ a x) := by
  refine met_in RX1 (by decide) rfl rfl (Nat.le_of_ble_eq_true rfl) ?_
  intro p e s m below meth c ls S hr hlocks hl hB
  have hx := S.1
  have hb := S.2.1
  have hml := S.2.2.1
  have hown := S.2.2.2.1
  have hts := S.2.2.2.2
  have hl : lv_has ls 3 [(0, .ref (ρ 0)), (1, .int a), (2, .int x)] := hl
  obtain ⟨⟨held, hRel, hP⟩, hXK⟩ := hB
  have hK := hXK.1
  have hS : va_S (xA 7 ρ) s.heap s.heap [] := va_S.rf
  refine lv_iload_n hx hb dX1_has_0 rfl (lv_at hl 1 rfl) ?_
  refine rd_S S hl (c_X1_isSlot l a) HB.tt gX1_has_X1_isSlot rfl nf_X1_isSlot rfl rfl dX1_has_1  (fun _ _ _ => trivial) ?_
  refine nv_ifz_ne (tgt := 9) hx hb dX1_has_4 (by decide) (fun c_4 => ?_) (fun c_4 => ?_)
  ·
    obtain ⟨sl, hsl, hxsl⟩ := wI_nat c_4 (by decide)
    subst hxsl
    have hcsl : (nI sl).toNatClampNeg = sl := nI_clamp (by omega)
    refine lv_iload_n hx hb dX1_has_9 rfl (lv_at hl 2 rfl) ?_
    refine rd_S S hl (c_X1_isKey l x) HB.tt gX1_has_X1_isKey rfl nf_X1_isKey rfl rfl dX1_has_10  (fun _ _ _ => trivial) ?_
    refine nv_ifz_ne (tgt := 19) hx hb dX1_has_13 (by decide) (fun c_13 => ?_) (fun c_13 => ?_)
    ·
      obtain ⟨k, hk, hxk⟩ := wI_nat c_13 (by decide)
      subst hxk
      have hck : (nI k).toNatClampNeg = k := nI_clamp (by omega)
      refine lv_aload_n hx hb dX1_has_19 rfl (lv_at hl 0 rfl) ?_
      refine lv_iload_n hx hb dX1_has_20 rfl (lv_at hl 1 rfl) ?_
      refine lv_iload_n hx hb dX1_has_21 rfl (lv_at hl 2 rfl) ?_
      refine rd_V S hl (c_X1_holds l D cI cZ ρ ts σ κ mk qu sl (some k) (by omega) (by exact fun j h => by first | exact nbo_lt h | (cases h; omega))) XB.hb gX1_has_X1_holds rfl rfl nf_X1_holds rfl rfl dX1_has_22 (XP.rc0 hXK hP) (XB.at hXK hS ⟨held, hRel, hP⟩) ?_
      refine nv_as (bI (σ sl k)) rfl ?_
      refine nv_ifz_eq (tgt := 32) hx hb dX1_has_25 (by decide) (fun c_25 => ?_) (fun c_25 => ?_)
      ·
        refine lv_iconst (v := nI 0) hx hb dX1_has_32 (by decide) ?_
        exact ret_i hx hb hr hlocks dX1_has_33 (by unfold hasR gs; rw [show isS (nI sl) = true from c_4, show isK (nI k) = true from c_13, show cl (nI sl) = sl from hcsl, show cl (nI k) = k from hck, c_25]; rfl)
      ·
        refine lv_iconst (v := nI 1) hx hb dX1_has_28 (by decide) ?_
        refine lv_goto (tgt := 33) hx hb dX1_has_29 (by decide) ?_
        exact ret_i hx hb hr hlocks dX1_has_33 (by unfold hasR gs; rw [show isS (nI sl) = true from c_4, show isK (nI k) = true from c_13, show cl (nI sl) = sl from hcsl, show cl (nI k) = k from hck, c_25]; rfl)
    ·
      refine lv_bipush (v := (-2)) hx hb dX1_has_16 (by decide) ?_
      exact ret_i hx hb hr hlocks dX1_has_18 (by first | (simp [hasR, gd, gs, c_4, c_13]; done) | (simp [hasR, gd, gs, c_4]; done))
  ·
    refine lv_iconst (v := (-1)) hx hb dX1_has_7 (by decide) ?_
    exact ret_i hx hb hr hlocks dX1_has_8 (by first | (simp [hasR, gd, gs, c_4, c_13]; done) | (simp [hasR, gd, gs, c_4]; done))
end
section
theorem nf_X1_put : nfOk yX1_put 4 := by unfold nfOk; decide +kernel
set_option maxHeartbeats 4000000 in
set_option maxRecDepth 100000 in
theorem c_X1_put (l : Launch) (D : va_G) (cI cZ : ClassId) (ρ : Nat → Nat) (ts : Nat) (σ : Nat → Nat → Bool) (κ : Int32) (mk : Nat → Int32) (qu : Nat → Int32) (a : Int32) (x : Int32) (y : Int32) (z : Int32) : Wr l yX1_put wsX1_put ({ frames := 2, cells := 0, slots := 0, locals := 45 }) [.ref (ρ 0), .int a, .int x, .int y, .int z] (XB D cI cZ ρ ts σ κ mk qu) (some (.int (putR σ a x y z))) (XS D cI ρ (putS σ a x y z) κ) (xA 7 ρ) := by
  refine met_in RX1 (by decide) rfl rfl (Nat.le_of_ble_eq_true rfl) ?_
  intro p e s m below meth c ls S hr hlocks hl hB
  have hx := S.1
  have hb := S.2.1
  have hml := S.2.2.1
  have hown := S.2.2.2.1
  have hts := S.2.2.2.2
  have hl : lv_has ls 8 [(0, .ref (ρ 0)), (1, .int a), (2, .int x), (3, .int y), (4, .int z)] := hl
  obtain ⟨⟨held, hRel, hP⟩, hXK⟩ := hB
  have hK := hXK.1
  have hS : va_S (xA 7 ρ) s.heap s.heap [] := va_S.rf
  refine lv_iload_n hx hb dX1_put_0 rfl (lv_at hl 1 rfl) ?_
  refine rd_S S hl (c_X1_isSlot l a) HB.tt gX1_put_X1_isSlot rfl nf_X1_isSlot rfl rfl dX1_put_1  (fun _ _ _ => trivial) ?_
  refine nv_ifz_ne (tgt := 9) hx hb dX1_put_4 (by decide) (fun c_4 => ?_) (fun c_4 => ?_)
  ·
    obtain ⟨sl, hsl, hxsl⟩ := wI_nat c_4 (by decide)
    subst hxsl
    have hcsl : (nI sl).toNatClampNeg = sl := nI_clamp (by omega)
    refine lv_iload_n hx hb dX1_put_9 rfl (lv_at hl 2 rfl) ?_
    refine rd_S S hl (c_X1_isKey l x) HB.tt gX1_put_X1_isKey rfl nf_X1_isKey rfl rfl dX1_put_10  (fun _ _ _ => trivial) ?_
    refine nv_ifz_eq (tgt := 33) hx hb dX1_put_13 (by decide) (fun c_13 => ?_) (fun c_13 => ?_)
    ·
      refine lv_bipush (v := (-2)) hx hb dX1_put_33 (by decide) ?_
      exact ret_wi hx hb hr hlocks dX1_put_35 hS (⟨_, _, held, hRel.eq (by first | (simp [putS, gd, gs, c_4, c_13, c_20, c_30]; done) | (simp [putS, gd, gs, c_4, c_13, c_20]; done) | (simp [putS, gd, gs, c_4, c_13]; done) | (simp [putS, gd, gs, c_4]; done)), hP⟩) (by first | (simp [putR, gd, gs, c_4, c_13, c_20, c_30]; done) | (simp [putR, gd, gs, c_4, c_13, c_20]; done) | (simp [putR, gd, gs, c_4, c_13]; done) | (simp [putR, gd, gs, c_4]; done))
    ·
      obtain ⟨k, hk, hxk⟩ := wI_nat c_13 (by decide)
      subst hxk
      have hck : (nI k).toNatClampNeg = k := nI_clamp (by omega)
      refine lv_iload_n hx hb dX1_put_16 rfl (lv_at hl 3 rfl) ?_
      refine rd_S S hl (c_X1_isLevel l y) HB.tt gX1_put_X1_isLevel rfl nf_X1_isLevel rfl rfl dX1_put_17  (fun _ _ _ => trivial) ?_
      refine nv_ifz_eq (tgt := 33) hx hb dX1_put_20 (by decide) (fun c_20 => ?_) (fun c_20 => ?_)
      ·
        refine lv_bipush (v := (-2)) hx hb dX1_put_33 (by decide) ?_
        exact ret_wi hx hb hr hlocks dX1_put_35 hS (⟨_, _, held, hRel.eq (by first | (simp [putS, gd, gs, c_4, c_13, c_20, c_30]; done) | (simp [putS, gd, gs, c_4, c_13, c_20]; done) | (simp [putS, gd, gs, c_4, c_13]; done) | (simp [putS, gd, gs, c_4]; done)), hP⟩) (by first | (simp [putR, gd, gs, c_4, c_13, c_20, c_30]; done) | (simp [putR, gd, gs, c_4, c_13, c_20]; done) | (simp [putR, gd, gs, c_4, c_13]; done) | (simp [putR, gd, gs, c_4]; done))
      ·
        obtain ⟨L, hL, hxL⟩ := wI_nat c_20 (by decide)
        subst hxL
        have hcL : (nI L).toNatClampNeg = L := nI_clamp (by omega)
        refine lv_iload hx hb dX1_put_23 (lv_at hl 4 rfl) ?_
        refine lv_iconst (v := nI 0) hx hb dX1_put_25 (by decide) ?_
        refine lv_iconst (v := nI 1) hx hb dX1_put_26 (by decide) ?_
        refine rd_S S hl (c_X1_within l z (nI 0) (nI 1)) HB.tt gX1_put_X1_within rfl nf_X1_within rfl rfl dX1_put_27  (fun _ _ _ => trivial) ?_
        refine nv_ifz_ne (tgt := 36) hx hb dX1_put_30 (by decide) (fun c_30 => ?_) (fun c_30 => ?_)
        ·
          obtain ⟨o, ho, hxo⟩ := wI_nat c_30 (by decide)
          subst hxo
          have hco : (nI o).toNatClampNeg = o := nI_clamp (by omega)
          refine lv_iload_n hx hb dX1_put_36 rfl (lv_at hl 2 rfl) ?_
          refine lv_iload_n hx hb dX1_put_37 rfl (lv_at hl 3 rfl) ?_
          refine rd_S S hl (c_X1_patchOf l k L (by omega) (by omega)) HB.tt gX1_put_X1_patchOf rfl nf_X1_patchOf rfl rfl dX1_put_38  (fun _ _ _ => trivial) ?_
          refine lv_istore (lv' := [(5, .int (nI (k / 7 ^ L * 7 ^ L))), (0, .ref (ρ 0)), (1, .int (nI sl)), (2, .int (nI k)), (3, .int (nI L)), (4, .int (nI o))]) hx hb dX1_put_41 hl (by decide) rfl (fun ls hl => ?_)
          refine lv_iload hx hb dX1_put_43 (lv_at hl 0 rfl) ?_
          refine lv_iload_n hx hb dX1_put_45 rfl (lv_at hl 4 rfl) ?_
          refine rd_S S hl (c_X1_patchSize l L (by omega)) HB.tt gX1_put_X1_patchSize rfl nf_X1_patchSize rfl rfl dX1_put_46  (fun _ _ _ => trivial) ?_
          refine lv_iadd hx hb dX1_put_49 ?_
          refine nv_as (nI (k / 7 ^ L * 7 ^ L + (7 ^ L))) (nI_add _ _) ?_
          refine lv_istore (lv' := [(6, .int (nI (k / 7 ^ L * 7 ^ L + (7 ^ L)))), (5, .int (nI (k / 7 ^ L * 7 ^ L))), (0, .ref (ρ 0)), (1, .int (nI sl)), (2, .int (nI k)), (3, .int (nI L)), (4, .int (nI o))]) hx hb dX1_put_50 hl (by decide) rfl (fun ls hl => ?_)
          refine lv_iload hx hb dX1_put_52 (lv_at hl 1 rfl) ?_
          refine lv_istore (lv' := [(7, .int (nI (k / 7 ^ L * 7 ^ L))), (6, .int (nI (k / 7 ^ L * 7 ^ L + (7 ^ L)))), (5, .int (nI (k / 7 ^ L * 7 ^ L))), (0, .ref (ρ 0)), (1, .int (nI sl)), (2, .int (nI k)), (3, .int (nI L)), (4, .int (nI o))]) hx hb dX1_put_54 hl (by decide) rfl (fun ls hl => ?_)
          have hp := pO_le (k := k) (L := L) (by omega) (by omega)
          have loop_56 : ∀ (n : Nat) (i : Nat), (i ≤ k / 7 ^ L * 7 ^ L + 7 ^ L) → (k / 7 ^ L * 7 ^ L ≤ i) → k / 7 ^ L * 7 ^ L + 7 ^ L - i < n → ∀ (x7 : Int32), x7 = nI i → ∀ (H : Heap) (locs : List Loc), va_S (xA 7 ρ) s.heap H locs → XP D cI ρ (mdS σ sl (k / 7 ^ L * 7 ^ L) i (fun _ => decide (o = 1))) κ mk qu H → ∀ ls : Array Slot, lv_has ls 8 [(0, .ref (ρ 0)), (1, .int (nI sl)), (2, .int (nI k)), (3, .int (nI L)), (4, .int (nI o)), (5, .int (nI (k / 7 ^ L * 7 ^ L))), (6, .int (nI (k / 7 ^ L * 7 ^ L + (7 ^ L)))), (7, .int x7)] → W p l e (headSpec wsX1_put ({ frames := 2, cells := 0, slots := 0, locals := 45 })).room s m [.ref (ρ 0), .int (nI sl), .int (nI k), .int (nI L), .int (nI o)].toArray below meth c H locs 0 0 (MQ below (qW (some (.int (putR σ (nI sl) (nI k) (nI L) (nI o)))) (XS D cI ρ (putS σ (nI sl) (nI k) (nI L) (nI o)) κ) (xA 7 ρ)) [.ref (ρ 0), .int (nI sl), .int (nI k), .int (nI L), .int (nI o)].toArray s 0 0 (xA 7 ρ)) (F0 m 56 ls []) := by
            intro n
            induction n with
            | zero => intro i hi hlo hm; exact absurd hm (Nat.not_lt_zero _)
            | succ n ih_56 =>
              intro i hi hlo hm_56 x7 e7 H locs hS hPP ls hl
              subst e7
              obtain ⟨held, hRel, hP⟩ := hPP
              refine lv_iload hx hb dX1_put_56 (lv_at hl 7 rfl) ?_
              refine lv_iload hx hb dX1_put_58 (lv_at hl 6 rfl) ?_
              refine nv_icmp_ge (tgt := 87) hx hb dX1_put_60 (by decide) (by omega) (by omega) (fun c_60 => ?_) (fun c_60 => ?_)
              ·
                refine lv_aload_n hx hb dX1_put_87 rfl (lv_at hl 0 rfl) ?_
                refine lv_iload_n hx hb dX1_put_88 rfl (lv_at hl 1 rfl) ?_
                refine rd_V S hl (c_X1_sizeOf l D cI cZ ρ ts (mdS σ sl (k / 7 ^ L * 7 ^ L) i (fun _ => decide (o = 1))) κ mk qu sl (by omega)) XB.hb gX1_put_X1_sizeOf rfl rfl nf_X1_sizeOf rfl rfl dX1_put_89 (XP.rc0 hXK hP) (XB.at hXK hS ⟨held, hRel, hP⟩) ?_
                have hi2 : i = k / 7 ^ L * 7 ^ L + 7 ^ L := by omega
                have e : putS σ (nI sl) (nI k) (nI L) (nI o) = mdS σ sl (k / 7 ^ L * 7 ^ L) i (fun _ => decide (o = 1)) := by rw [hi2]; simp [putS, pO, c_4, c_13, c_20, c_30, hcsl, hck, hcL, hco]
                exact ret_wi hx hb hr hlocks dX1_put_92 hS (⟨_, _, held, hRel.eq e, hP⟩) (by unfold putR; rw [e]; simp [gs, c_4, c_13, c_20, c_30, hcsl])
              ·
                refine lv_aload_n hx hb dX1_put_63 rfl (lv_at hl 0 rfl) ?_
                refine lv_iload_n hx hb dX1_put_64 rfl (lv_at hl 1 rfl) ?_
                refine lv_iload hx hb dX1_put_65 (lv_at hl 7 rfl) ?_
                refine lv_iload hx hb dX1_put_67 (lv_at hl 4 rfl) ?_
                refine lv_iconst (v := nI 1) hx hb dX1_put_69 (by decide) ?_
                refine nv_icmp_ne (tgt := 77) hx hb dX1_put_70 (by decide) (by omega) (by omega) (fun c_70 => ?_) (fun c_70 => ?_)
                ·
                  refine lv_iconst (v := nI 0) hx hb dX1_put_77 (by decide) ?_
                  refine wr_V S hl (c_X1_place l D cI cZ ρ ts (mdS σ sl (k / 7 ^ L * 7 ^ L) i (fun _ => decide (o = 1))) κ mk qu sl i false (by omega) (by omega)) XB.hb gX1_put_X1_place rfl rfl nf_X1_place rfl rfl dX1_put_78 (XP.rc0 hXK hP) (XB.at hXK hS ⟨held, hRel, hP⟩) hS (fun _ h => h) (fun H locs hPP hS _ hkp => ?_)
                  obtain ⟨held, hRel, hP⟩ := hPP
                  refine W.eq (g2 := F0 m 81 ls []) rfl ?_
                  refine lv_iinc (v := nI (i + 1)) (lv' := [(7, .int (nI (i + 1))), (0, .ref (ρ 0)), (1, .int (nI sl)), (2, .int (nI k)), (3, .int (nI L)), (4, .int (nI o)), (5, .int (nI (k / 7 ^ L * 7 ^ L))), (6, .int (nI (k / 7 ^ L * 7 ^ L + (7 ^ L))))]) hx hb dX1_put_81 hl (k := 7) rfl (inc_nI _) (by decide) rfl (fun ls hl => ?_)
                  refine lv_goto (tgt := 56) hx hb dX1_put_84 (by decide) ?_
                  exact ih_56 (i + 1) (by omega) (by omega) (by omega) _ (by first | rfl | exact congrArg nI (by omega)) _ _ hS ⟨held, hRel.eq (md_step (by simp [c_70]) (by omega)).symm, hP⟩ _ (lv_sub hl [1, 2, 3, 4, 5, 6, 7, 0] rfl)
                ·
                  refine lv_iconst (v := nI 1) hx hb dX1_put_73 (by decide) ?_
                  refine lv_goto (tgt := 78) hx hb dX1_put_74 (by decide) ?_
                  refine wr_V S hl (c_X1_place l D cI cZ ρ ts (mdS σ sl (k / 7 ^ L * 7 ^ L) i (fun _ => decide (o = 1))) κ mk qu sl i true (by omega) (by omega)) XB.hb gX1_put_X1_place rfl rfl nf_X1_place rfl rfl dX1_put_78 (XP.rc0 hXK hP) (XB.at hXK hS ⟨held, hRel, hP⟩) hS (fun _ h => h) (fun H locs hPP hS _ hkp => ?_)
                  obtain ⟨held, hRel, hP⟩ := hPP
                  refine W.eq (g2 := F0 m 81 ls []) rfl ?_
                  refine lv_iinc (v := nI (i + 1)) (lv' := [(7, .int (nI (i + 1))), (0, .ref (ρ 0)), (1, .int (nI sl)), (2, .int (nI k)), (3, .int (nI L)), (4, .int (nI o)), (5, .int (nI (k / 7 ^ L * 7 ^ L))), (6, .int (nI (k / 7 ^ L * 7 ^ L + (7 ^ L))))]) hx hb dX1_put_81 hl (k := 7) rfl (inc_nI _) (by decide) rfl (fun ls hl => ?_)
                  refine lv_goto (tgt := 56) hx hb dX1_put_84 (by decide) ?_
                  exact ih_56 (i + 1) (by omega) (by omega) (by omega) _ (by first | rfl | exact congrArg nI (by omega)) _ _ hS ⟨held, hRel.eq (md_step (by simp [c_70]) (by omega)).symm, hP⟩ _ (lv_sub hl [1, 2, 3, 4, 5, 6, 7, 0] rfl)
          exact loop_56 (k / 7 ^ L * 7 ^ L + 7 ^ L - (k / 7 ^ L * 7 ^ L) + 1) (k / 7 ^ L * 7 ^ L) (by exact Nat.le_add_right _ _) (by exact Nat.le_refl _) (Nat.lt_succ_self _) _ (by first | rfl | exact congrArg nI (by omega)) _ _ hS ⟨held, hRel.eq md_0, hP⟩ _ (lv_sub hl [3, 4, 5, 6, 7, 2, 1, 0] rfl)
        ·
          refine lv_bipush (v := (-2)) hx hb dX1_put_33 (by decide) ?_
          exact ret_wi hx hb hr hlocks dX1_put_35 hS (⟨_, _, held, hRel.eq (by first | (simp [putS, gd, gs, c_4, c_13, c_20, c_30]; done) | (simp [putS, gd, gs, c_4, c_13, c_20]; done) | (simp [putS, gd, gs, c_4, c_13]; done) | (simp [putS, gd, gs, c_4]; done)), hP⟩) (by first | (simp [putR, gd, gs, c_4, c_13, c_20, c_30]; done) | (simp [putR, gd, gs, c_4, c_13, c_20]; done) | (simp [putR, gd, gs, c_4, c_13]; done) | (simp [putR, gd, gs, c_4]; done))
  ·
    refine lv_iconst (v := (-1)) hx hb dX1_put_7 (by decide) ?_
    exact ret_wi hx hb hr hlocks dX1_put_8 hS (⟨_, _, held, hRel.eq (by first | (simp [putS, gd, gs, c_4, c_13, c_20, c_30]; done) | (simp [putS, gd, gs, c_4, c_13, c_20]; done) | (simp [putS, gd, gs, c_4, c_13]; done) | (simp [putS, gd, gs, c_4]; done)), hP⟩) (by first | (simp [putR, gd, gs, c_4, c_13, c_20, c_30]; done) | (simp [putR, gd, gs, c_4, c_13, c_20]; done) | (simp [putR, gd, gs, c_4, c_13]; done) | (simp [putR, gd, gs, c_4]; done))
theorem nf_X1_disk : nfOk yX1_disk 3 := by unfold nfOk; decide +kernel
set_option maxHeartbeats 4000000 in
set_option maxRecDepth 100000 in
theorem c_X1_disk (l : Launch) (D : va_G) (cI cZ : ClassId) (ρ : Nat → Nat) (ts : Nat) (σ : Nat → Nat → Bool) (κ : Int32) (mk : Nat → Int32) (qu : Nat → Int32) (a : Int32) (x : Int32) (y : Int32) : Wr l yX1_disk wsX1_disk ({ frames := 3, cells := 0, slots := 0, locals := 66 }) [.ref (ρ 0), .int a, .int x, .int y] (XB D cI cZ ρ ts σ κ mk qu) (some (.int (diskR σ a x y))) (XS D cI ρ (diskS σ a x y) κ) (xA 7 ρ) := by
  refine met_in RX1 (by decide) rfl rfl (Nat.le_of_ble_eq_true rfl) ?_
  intro p e s m below meth c ls S hr hlocks hl hB
  have hx := S.1
  have hb := S.2.1
  have hml := S.2.2.1
  have hown := S.2.2.2.1
  have hts := S.2.2.2.2
  have hl : lv_has ls 5 [(0, .ref (ρ 0)), (1, .int a), (2, .int x), (3, .int y)] := hl
  obtain ⟨⟨held, hRel, hP⟩, hXK⟩ := hB
  have hK := hXK.1
  have hS : va_S (xA 7 ρ) s.heap s.heap [] := va_S.rf
  refine lv_iload_n hx hb dX1_disk_0 rfl (lv_at hl 1 rfl) ?_
  refine rd_S S hl (c_X1_isSlot l a) HB.tt gX1_disk_X1_isSlot rfl nf_X1_isSlot rfl rfl dX1_disk_1  (fun _ _ _ => trivial) ?_
  refine nv_ifz_ne (tgt := 9) hx hb dX1_disk_4 (by decide) (fun c_4 => ?_) (fun c_4 => ?_)
  ·
    obtain ⟨sl, hsl, hxsl⟩ := wI_nat c_4 (by decide)
    subst hxsl
    have hcsl : (nI sl).toNatClampNeg = sl := nI_clamp (by omega)
    refine lv_iload_n hx hb dX1_disk_9 rfl (lv_at hl 2 rfl) ?_
    refine rd_S S hl (c_X1_isKey l x) HB.tt gX1_disk_X1_isKey rfl nf_X1_isKey rfl rfl dX1_disk_10  (fun _ _ _ => trivial) ?_
    refine nv_ifz_eq (tgt := 26) hx hb dX1_disk_13 (by decide) (fun c_13 => ?_) (fun c_13 => ?_)
    ·
      refine lv_bipush (v := (-2)) hx hb dX1_disk_26 (by decide) ?_
      exact ret_wi hx hb hr hlocks dX1_disk_28 hS (⟨_, _, held, hRel.eq (by first | (simp [diskS, gd, gs, c_4, c_13, c_23]; done) | (simp [diskS, gd, gs, c_4, c_13]; done) | (simp [diskS, gd, gs, c_4]; done)), hP⟩) (by first | (simp [diskR, gd, gs, c_4, c_13, c_23]; done) | (simp [diskR, gd, gs, c_4, c_13]; done) | (simp [diskR, gd, gs, c_4]; done))
    ·
      obtain ⟨k, hk, hxk⟩ := wI_nat c_13 (by decide)
      subst hxk
      have hck : (nI k).toNatClampNeg = k := nI_clamp (by omega)
      refine lv_iload_n hx hb dX1_disk_16 rfl (lv_at hl 3 rfl) ?_
      refine lv_iconst (v := nI 0) hx hb dX1_disk_17 (by decide) ?_
      refine lv_bipush (v := nI 70) hx hb dX1_disk_18 (by decide) ?_
      refine rd_S S hl (c_X1_within l y (nI 0) (nI 70)) HB.tt gX1_disk_X1_within rfl nf_X1_within rfl rfl dX1_disk_20  (fun _ _ _ => trivial) ?_
      refine nv_ifz_ne (tgt := 29) hx hb dX1_disk_23 (by decide) (fun c_23 => ?_) (fun c_23 => ?_)
      ·
        refine lv_iconst (v := nI 0) hx hb dX1_disk_29 (by decide) ?_
        refine lv_istore (lv' := [(4, .int (nI 0)), (0, .ref (ρ 0)), (1, .int (nI sl)), (2, .int (nI k)), (3, .int y)]) hx hb dX1_disk_30 hl (by decide) rfl (fun ls hl => ?_)
        have loop_32 : ∀ (n : Nat) (i : Nat), (i ≤ 2401) → 2401 - i < n → ∀ (x4 : Int32), x4 = nI i → ∀ (H : Heap) (locs : List Loc), va_S (xA 7 ρ) s.heap H locs → XP D cI ρ (mdS σ sl 0 i (fun j => decide (farI k j ≤ y))) κ mk qu H → ∀ ls : Array Slot, lv_has ls 5 [(0, .ref (ρ 0)), (1, .int (nI sl)), (2, .int (nI k)), (3, .int y), (4, .int x4)] → W p l e (headSpec wsX1_disk ({ frames := 3, cells := 0, slots := 0, locals := 66 })).room s m [.ref (ρ 0), .int (nI sl), .int (nI k), .int y].toArray below meth c H locs 0 0 (MQ below (qW (some (.int (diskR σ (nI sl) (nI k) y))) (XS D cI ρ (diskS σ (nI sl) (nI k) y) κ) (xA 7 ρ)) [.ref (ρ 0), .int (nI sl), .int (nI k), .int y].toArray s 0 0 (xA 7 ρ)) (F0 m 32 ls []) := by
          intro n
          induction n with
          | zero => intro i hi hm; exact absurd hm (Nat.not_lt_zero _)
          | succ n ih_32 =>
            intro i hi hm_32 x4 e4 H locs hS hPP ls hl
            subst e4
            obtain ⟨held, hRel, hP⟩ := hPP
            refine lv_iload hx hb dX1_disk_32 (lv_at hl 4 rfl) ?_
            refine lv_sipush (v := nI 2401) hx hb dX1_disk_34 (by decide) ?_
            refine nv_icmp_ge (tgt := 72) hx hb dX1_disk_37 (by decide) (by omega) (by omega) (fun c_37 => ?_) (fun c_37 => ?_)
            ·
              refine lv_aload_n hx hb dX1_disk_72 rfl (lv_at hl 0 rfl) ?_
              refine lv_iload_n hx hb dX1_disk_73 rfl (lv_at hl 1 rfl) ?_
              refine rd_V S hl (c_X1_sizeOf l D cI cZ ρ ts (mdS σ sl 0 i (fun j => decide (farI k j ≤ y))) κ mk qu sl (by omega)) XB.hb gX1_disk_X1_sizeOf rfl rfl nf_X1_sizeOf rfl rfl dX1_disk_74 (XP.rc0 hXK hP) (XB.at hXK hS ⟨held, hRel, hP⟩) ?_
              have hi2 : i = 2401 := by omega
              have e : diskS σ (nI sl) (nI k) y = mdS σ sl 0 i (fun j => decide (farI k j ≤ y)) := by rw [hi2]; simp [diskS, c_4, c_13, c_23, hcsl, hck]
              exact ret_wi hx hb hr hlocks dX1_disk_77 hS (⟨_, _, held, hRel.eq e, hP⟩) (by unfold diskR; rw [e]; simp [gs, c_4, c_13, c_23, hcsl])
            ·
              refine lv_aload_n hx hb dX1_disk_40 rfl (lv_at hl 0 rfl) ?_
              refine lv_iload_n hx hb dX1_disk_41 rfl (lv_at hl 1 rfl) ?_
              refine lv_iload hx hb dX1_disk_42 (lv_at hl 4 rfl) ?_
              refine lv_aload_n hx hb dX1_disk_44 rfl (lv_at hl 0 rfl) ?_
              refine va_get (D := D) (ci := 1) (v := .ref (ρ 1)) (C := RX1) (T := TX1) (N := 5) hx hb hts (by decide +kernel) hown hK hP 0 rfl rfl 0 (by decide) (hts (.fieldLink RX1 10 "SevenKeys" "sheet" "LSevenKeys$Sheet;") (by decide +kernel)) (fun _ h9 => h9) rfl dX1_disk_45 ?_
              refine lv_iload_n hx hb dX1_disk_48 rfl (lv_at hl 2 rfl) ?_
              refine lv_iload hx hb dX1_disk_49 (lv_at hl 4 rfl) ?_
              refine rd_V S hl (c_X0_stepsApart l D cI cZ ρ ts (mdS σ sl 0 i (fun j => decide (farI k j ≤ y))) κ mk qu k i (by omega) (by omega)) XB.hb gX1_disk_X0_stepsApart rfl rfl nf_X0_stepsApart rfl rfl dX1_disk_51 (XP.rc1 hXK hP) (XB.at hXK hS ⟨held, hRel, hP⟩) ?_
              refine lv_iload_n hx hb dX1_disk_54 rfl (lv_at hl 3 rfl) ?_
              refine lv_icmp_gt (tgt := 62) hx hb dX1_disk_55 (by decide) (fun c_55 => ?_) (fun c_55 => ?_)
              ·
                have cc : false = decide (farI k i ≤ y) := (decide_eq_false (Int32.not_le.mpr c_55)).symm
                refine lv_iconst (v := nI 0) hx hb dX1_disk_62 (by decide) ?_
                refine wr_V S hl (c_X1_place l D cI cZ ρ ts (mdS σ sl 0 i (fun j => decide (farI k j ≤ y))) κ mk qu sl i false (by omega) (by omega)) XB.hb gX1_disk_X1_place rfl rfl nf_X1_place rfl rfl dX1_disk_63 (XP.rc0 hXK hP) (XB.at hXK hS ⟨held, hRel, hP⟩) hS (fun _ h => h) (fun H locs hPP hS _ hkp => ?_)
                obtain ⟨held, hRel, hP⟩ := hPP
                refine W.eq (g2 := F0 m 66 ls []) rfl ?_
                refine lv_iinc (v := nI (i + 1)) (lv' := [(4, .int (nI (i + 1))), (0, .ref (ρ 0)), (1, .int (nI sl)), (2, .int (nI k)), (3, .int y)]) hx hb dX1_disk_66 hl (k := 4) rfl (inc_nI _) (by decide) rfl (fun ls hl => ?_)
                refine lv_goto (tgt := 32) hx hb dX1_disk_69 (by decide) ?_
                exact ih_32 (i + 1) (by omega) (by omega) _ (by first | rfl | exact congrArg nI (by omega)) _ _ hS ⟨held, hRel.eq (md_step cc (by omega)).symm, hP⟩ _ (lv_sub hl [1, 2, 3, 4, 0] rfl)
              ·
                have cc : true = decide (farI k i ≤ y) := (decide_eq_true (Int32.not_lt.mp c_55)).symm
                refine lv_iconst (v := nI 1) hx hb dX1_disk_58 (by decide) ?_
                refine lv_goto (tgt := 63) hx hb dX1_disk_59 (by decide) ?_
                refine wr_V S hl (c_X1_place l D cI cZ ρ ts (mdS σ sl 0 i (fun j => decide (farI k j ≤ y))) κ mk qu sl i true (by omega) (by omega)) XB.hb gX1_disk_X1_place rfl rfl nf_X1_place rfl rfl dX1_disk_63 (XP.rc0 hXK hP) (XB.at hXK hS ⟨held, hRel, hP⟩) hS (fun _ h => h) (fun H locs hPP hS _ hkp => ?_)
                obtain ⟨held, hRel, hP⟩ := hPP
                refine W.eq (g2 := F0 m 66 ls []) rfl ?_
                refine lv_iinc (v := nI (i + 1)) (lv' := [(4, .int (nI (i + 1))), (0, .ref (ρ 0)), (1, .int (nI sl)), (2, .int (nI k)), (3, .int y)]) hx hb dX1_disk_66 hl (k := 4) rfl (inc_nI _) (by decide) rfl (fun ls hl => ?_)
                refine lv_goto (tgt := 32) hx hb dX1_disk_69 (by decide) ?_
                exact ih_32 (i + 1) (by omega) (by omega) _ (by first | rfl | exact congrArg nI (by omega)) _ _ hS ⟨held, hRel.eq (md_step cc (by omega)).symm, hP⟩ _ (lv_sub hl [1, 2, 3, 4, 0] rfl)
        exact loop_32 (2401 - 0 + 1) 0 (by omega) (Nat.lt_succ_self _) _ rfl _ _ hS ⟨held, hRel.eq md_0, hP⟩ _ (lv_sub hl [1, 2, 3, 4, 0] rfl)
      ·
        refine lv_bipush (v := (-2)) hx hb dX1_disk_26 (by decide) ?_
        exact ret_wi hx hb hr hlocks dX1_disk_28 hS (⟨_, _, held, hRel.eq (by first | (simp [diskS, gd, gs, c_4, c_13, c_23]; done) | (simp [diskS, gd, gs, c_4, c_13]; done) | (simp [diskS, gd, gs, c_4]; done)), hP⟩) (by first | (simp [diskR, gd, gs, c_4, c_13, c_23]; done) | (simp [diskR, gd, gs, c_4, c_13]; done) | (simp [diskR, gd, gs, c_4]; done))
  ·
    refine lv_iconst (v := (-1)) hx hb dX1_disk_7 (by decide) ?_
    exact ret_wi hx hb hr hlocks dX1_disk_8 hS (⟨_, _, held, hRel.eq (by first | (simp [diskS, gd, gs, c_4, c_13, c_23]; done) | (simp [diskS, gd, gs, c_4, c_13]; done) | (simp [diskS, gd, gs, c_4]; done)), hP⟩) (by first | (simp [diskR, gd, gs, c_4, c_13, c_23]; done) | (simp [diskR, gd, gs, c_4, c_13]; done) | (simp [diskR, gd, gs, c_4]; done))
theorem nf_X1_join : nfOk yX1_join 4 := by unfold nfOk; decide +kernel
set_option maxHeartbeats 4000000 in
set_option maxRecDepth 100000 in
theorem c_X1_join (l : Launch) (D : va_G) (cI cZ : ClassId) (ρ : Nat → Nat) (ts : Nat) (σ : Nat → Nat → Bool) (κ : Int32) (mk : Nat → Int32) (qu : Nat → Int32) (a : Int32) (b : Int32) (d : Int32) (y : Int32) : Wr l yX1_join wsX1_join ({ frames := 2, cells := 0, slots := 0, locals := 45 }) [.ref (ρ 0), .int a, .int b, .int d, .int y] (XB D cI cZ ρ ts σ κ mk qu) (some (.int (joinR σ a b d y))) (XS D cI ρ (joinS σ a b d y) κ) (xA 7 ρ) := by
  refine met_in RX1 (by decide) rfl rfl (Nat.le_of_ble_eq_true rfl) ?_
  intro p e s m below meth c ls S hr hlocks hl hB
  have hx := S.1
  have hb := S.2.1
  have hml := S.2.2.1
  have hown := S.2.2.2.1
  have hts := S.2.2.2.2
  have hl : lv_has ls 6 [(0, .ref (ρ 0)), (1, .int a), (2, .int b), (3, .int d), (4, .int y)] := hl
  obtain ⟨⟨held, hRel, hP⟩, hXK⟩ := hB
  have hK := hXK.1
  have hS : va_S (xA 7 ρ) s.heap s.heap [] := va_S.rf
  refine lv_iload_n hx hb dX1_join_0 rfl (lv_at hl 1 rfl) ?_
  refine rd_S S hl (c_X1_isSlot l a) HB.tt gX1_join_X1_isSlot rfl nf_X1_isSlot rfl rfl dX1_join_1  (fun _ _ _ => trivial) ?_
  refine nv_ifz_eq (tgt := 21) hx hb dX1_join_4 (by decide) (fun c_4 => ?_) (fun c_4 => ?_)
  ·
    refine lv_iconst (v := (-1)) hx hb dX1_join_21 (by decide) ?_
    exact ret_wi hx hb hr hlocks dX1_join_22 hS (⟨_, _, held, hRel.eq (by first | (simp [joinS, gd, gs, c_4, c_11, c_18, c_30]; done) | (simp [joinS, gd, gs, c_4, c_11, c_18]; done) | (simp [joinS, gd, gs, c_4, c_11]; done) | (simp [joinS, gd, gs, c_4]; done)), hP⟩) (by first | (simp [joinR, gd, gs, c_4, c_11, c_18, c_30]; done) | (simp [joinR, gd, gs, c_4, c_11, c_18]; done) | (simp [joinR, gd, gs, c_4, c_11]; done) | (simp [joinR, gd, gs, c_4]; done))
  ·
    obtain ⟨sl, hsl, hxsl⟩ := wI_nat c_4 (by decide)
    subst hxsl
    have hcsl : (nI sl).toNatClampNeg = sl := nI_clamp (by omega)
    refine lv_iload_n hx hb dX1_join_7 rfl (lv_at hl 2 rfl) ?_
    refine rd_S S hl (c_X1_isSlot l b) HB.tt gX1_join_X1_isSlot rfl nf_X1_isSlot rfl rfl dX1_join_8  (fun _ _ _ => trivial) ?_
    refine nv_ifz_eq (tgt := 21) hx hb dX1_join_11 (by decide) (fun c_11 => ?_) (fun c_11 => ?_)
    ·
      refine lv_iconst (v := (-1)) hx hb dX1_join_21 (by decide) ?_
      exact ret_wi hx hb hr hlocks dX1_join_22 hS (⟨_, _, held, hRel.eq (by first | (simp [joinS, gd, gs, c_4, c_11, c_18, c_30]; done) | (simp [joinS, gd, gs, c_4, c_11, c_18]; done) | (simp [joinS, gd, gs, c_4, c_11]; done) | (simp [joinS, gd, gs, c_4]; done)), hP⟩) (by first | (simp [joinR, gd, gs, c_4, c_11, c_18, c_30]; done) | (simp [joinR, gd, gs, c_4, c_11, c_18]; done) | (simp [joinR, gd, gs, c_4, c_11]; done) | (simp [joinR, gd, gs, c_4]; done))
    ·
      obtain ⟨s1, hs1, hxs1⟩ := wI_nat c_11 (by decide)
      subst hxs1
      have hcs1 : (nI s1).toNatClampNeg = s1 := nI_clamp (by omega)
      refine lv_iload_n hx hb dX1_join_14 rfl (lv_at hl 3 rfl) ?_
      refine rd_S S hl (c_X1_isSlot l d) HB.tt gX1_join_X1_isSlot rfl nf_X1_isSlot rfl rfl dX1_join_15  (fun _ _ _ => trivial) ?_
      refine nv_ifz_ne (tgt := 23) hx hb dX1_join_18 (by decide) (fun c_18 => ?_) (fun c_18 => ?_)
      ·
        obtain ⟨s2, hs2, hxs2⟩ := wI_nat c_18 (by decide)
        subst hxs2
        have hcs2 : (nI s2).toNatClampNeg = s2 := nI_clamp (by omega)
        refine lv_iload hx hb dX1_join_23 (lv_at hl 4 rfl) ?_
        refine lv_iconst (v := nI 0) hx hb dX1_join_25 (by decide) ?_
        refine lv_iconst (v := nI 3) hx hb dX1_join_26 (by decide) ?_
        refine rd_S S hl (c_X1_within l y (nI 0) (nI 3)) HB.tt gX1_join_X1_within rfl nf_X1_within rfl rfl dX1_join_27  (fun _ _ _ => trivial) ?_
        refine nv_ifz_ne (tgt := 36) hx hb dX1_join_30 (by decide) (fun c_30 => ?_) (fun c_30 => ?_)
        ·
          obtain ⟨w, hw, hxw⟩ := wI_nat c_30 (by decide)
          subst hxw
          have hcw : (nI w).toNatClampNeg = w := nI_clamp (by omega)
          refine lv_iconst (v := nI 0) hx hb dX1_join_36 (by decide) ?_
          refine lv_istore (lv' := [(5, .int (nI 0)), (0, .ref (ρ 0)), (1, .int (nI sl)), (2, .int (nI s1)), (3, .int (nI s2)), (4, .int (nI w))]) hx hb dX1_join_37 hl (by decide) rfl (fun ls hl => ?_)
          have loop_39 : ∀ (n : Nat) (i : Nat), (i ≤ 2401) → 2401 - i < n → ∀ (x5 : Int32), x5 = nI i → ∀ (H : Heap) (locs : List Loc), va_S (xA 7 ρ) s.heap H locs → XP D cI ρ (mdS σ sl 0 i (fun j => jn (σ s1 j) (σ s2 j) w)) κ mk qu H → ∀ ls : Array Slot, lv_has ls 6 [(0, .ref (ρ 0)), (1, .int (nI sl)), (2, .int (nI s1)), (3, .int (nI s2)), (4, .int (nI w)), (5, .int x5)] → W p l e (headSpec wsX1_join ({ frames := 2, cells := 0, slots := 0, locals := 45 })).room s m [.ref (ρ 0), .int (nI sl), .int (nI s1), .int (nI s2), .int (nI w)].toArray below meth c H locs 0 0 (MQ below (qW (some (.int (joinR σ (nI sl) (nI s1) (nI s2) (nI w)))) (XS D cI ρ (joinS σ (nI sl) (nI s1) (nI s2) (nI w)) κ) (xA 7 ρ)) [.ref (ρ 0), .int (nI sl), .int (nI s1), .int (nI s2), .int (nI w)].toArray s 0 0 (xA 7 ρ)) (F0 m 39 ls []) := by
            intro n
            induction n with
            | zero => intro i hi hm; exact absurd hm (Nat.not_lt_zero _)
            | succ n ih_39 =>
              intro i hi hm_39 x5 e5 H locs hS hPP ls hl
              subst e5
              obtain ⟨held, hRel, hP⟩ := hPP
              refine lv_iload hx hb dX1_join_39 (lv_at hl 5 rfl) ?_
              refine lv_sipush (v := nI 2401) hx hb dX1_join_41 (by decide) ?_
              refine nv_icmp_ge (tgt := 79) hx hb dX1_join_44 (by decide) (by omega) (by omega) (fun c_44 => ?_) (fun c_44 => ?_)
              ·
                refine lv_aload_n hx hb dX1_join_79 rfl (lv_at hl 0 rfl) ?_
                refine lv_iload_n hx hb dX1_join_80 rfl (lv_at hl 1 rfl) ?_
                refine rd_V S hl (c_X1_sizeOf l D cI cZ ρ ts (mdS σ sl 0 i (fun j => jn (σ s1 j) (σ s2 j) w)) κ mk qu sl (by omega)) XB.hb gX1_join_X1_sizeOf rfl rfl nf_X1_sizeOf rfl rfl dX1_join_81 (XP.rc0 hXK hP) (XB.at hXK hS ⟨held, hRel, hP⟩) ?_
                have hi2 : i = 2401 := by omega
                have e : joinS σ (nI sl) (nI s1) (nI s2) (nI w) = mdS σ sl 0 i (fun j => jn (σ s1 j) (σ s2 j) w) := by rw [hi2]; simp [joinS, c_4, c_11, c_18, c_30, hcsl, hcs1, hcs2, hcw]
                exact ret_wi hx hb hr hlocks dX1_join_84 hS (⟨_, _, held, hRel.eq e, hP⟩) (by unfold joinR; rw [e]; simp [gs, c_4, c_11, c_18, c_30, hcsl])
              ·
                refine lv_aload_n hx hb dX1_join_47 rfl (lv_at hl 0 rfl) ?_
                refine lv_iload_n hx hb dX1_join_48 rfl (lv_at hl 1 rfl) ?_
                refine lv_iload hx hb dX1_join_49 (lv_at hl 5 rfl) ?_
                refine lv_aload_n hx hb dX1_join_51 rfl (lv_at hl 0 rfl) ?_
                refine lv_iload_n hx hb dX1_join_52 rfl (lv_at hl 2 rfl) ?_
                refine lv_iload hx hb dX1_join_53 (lv_at hl 5 rfl) ?_
                refine rd_V S hl (c_X1_holds l D cI cZ ρ ts (mdS σ sl 0 i (fun j => jn (σ s1 j) (σ s2 j) w)) κ mk qu s1 (some i) (by omega) (by exact fun j h => by first | exact nbo_lt h | (cases h; omega))) XB.hb gX1_join_X1_holds rfl rfl nf_X1_holds rfl rfl dX1_join_55 (XP.rc0 hXK hP) (XB.at hXK hS ⟨held, hRel, hP⟩) ?_
                refine nv_as (bI ((mdS σ sl 0 i (fun j => jn (σ s1 j) (σ s2 j) w)) s1 i)) rfl ?_
                refine lv_aload_n hx hb dX1_join_58 rfl (lv_at hl 0 rfl) ?_
                refine lv_iload_n hx hb dX1_join_59 rfl (lv_at hl 3 rfl) ?_
                refine lv_iload hx hb dX1_join_60 (lv_at hl 5 rfl) ?_
                refine rd_V S hl (c_X1_holds l D cI cZ ρ ts (mdS σ sl 0 i (fun j => jn (σ s1 j) (σ s2 j) w)) κ mk qu s2 (some i) (by omega) (by exact fun j h => by first | exact nbo_lt h | (cases h; omega))) XB.hb gX1_join_X1_holds rfl rfl nf_X1_holds rfl rfl dX1_join_62 (XP.rc0 hXK hP) (XB.at hXK hS ⟨held, hRel, hP⟩) ?_
                refine nv_as (bI ((mdS σ sl 0 i (fun j => jn (σ s1 j) (σ s2 j) w)) s2 i)) rfl ?_
                refine lv_iload hx hb dX1_join_65 (lv_at hl 4 rfl) ?_
                refine rd_S S hl (c_X1_joined l ((mdS σ sl 0 i (fun j => jn (σ s1 j) (σ s2 j) w)) s1 i) ((mdS σ sl 0 i (fun j => jn (σ s1 j) (σ s2 j) w)) s2 i) w (by omega)) HB.tt gX1_join_X1_joined rfl nf_X1_joined rfl rfl dX1_join_67  (fun _ _ _ => trivial) ?_
                refine wr_V S hl (c_X1_place l D cI cZ ρ ts (mdS σ sl 0 i (fun j => jn (σ s1 j) (σ s2 j) w)) κ mk qu sl i (jn ((mdS σ sl 0 i (fun j => jn (σ s1 j) (σ s2 j) w)) s1 i) ((mdS σ sl 0 i (fun j => jn (σ s1 j) (σ s2 j) w)) s2 i) w) (by omega) (by omega)) XB.hb gX1_join_X1_place rfl rfl nf_X1_place rfl rfl dX1_join_70 (XP.rc0 hXK hP) (XB.at hXK hS ⟨held, hRel, hP⟩) hS (fun _ h => h) (fun H locs hPP hS _ hkp => ?_)
                obtain ⟨held, hRel, hP⟩ := hPP
                refine W.eq (g2 := F0 m 73 ls []) rfl ?_
                refine lv_iinc (v := nI (i + 1)) (lv' := [(5, .int (nI (i + 1))), (0, .ref (ρ 0)), (1, .int (nI sl)), (2, .int (nI s1)), (3, .int (nI s2)), (4, .int (nI w))]) hx hb dX1_join_73 hl (k := 5) rfl (inc_nI _) (by decide) rfl (fun ls hl => ?_)
                refine lv_goto (tgt := 39) hx hb dX1_join_76 (by decide) ?_
                exact ih_39 (i + 1) (by omega) (by omega) _ (by first | rfl | exact congrArg nI (by omega)) _ _ hS ⟨held, hRel.eq (md_step (by rw [md_ge _ (Nat.le_refl i), md_ge _ (Nat.le_refl i)]) (by omega)).symm, hP⟩ _ (lv_sub hl [1, 2, 3, 4, 5, 0] rfl)
          exact loop_39 (2401 - 0 + 1) 0 (by omega) (Nat.lt_succ_self _) _ rfl _ _ hS ⟨held, hRel.eq md_0, hP⟩ _ (lv_sub hl [1, 2, 3, 4, 5, 0] rfl)
        ·
          refine lv_bipush (v := (-2)) hx hb dX1_join_33 (by decide) ?_
          exact ret_wi hx hb hr hlocks dX1_join_35 hS (⟨_, _, held, hRel.eq (by first | (simp [joinS, gd, gs, c_4, c_11, c_18, c_30]; done) | (simp [joinS, gd, gs, c_4, c_11, c_18]; done) | (simp [joinS, gd, gs, c_4, c_11]; done) | (simp [joinS, gd, gs, c_4]; done)), hP⟩) (by first | (simp [joinR, gd, gs, c_4, c_11, c_18, c_30]; done) | (simp [joinR, gd, gs, c_4, c_11, c_18]; done) | (simp [joinR, gd, gs, c_4, c_11]; done) | (simp [joinR, gd, gs, c_4]; done))
      ·
        refine lv_iconst (v := (-1)) hx hb dX1_join_21 (by decide) ?_
        exact ret_wi hx hb hr hlocks dX1_join_22 hS (⟨_, _, held, hRel.eq (by first | (simp [joinS, gd, gs, c_4, c_11, c_18, c_30]; done) | (simp [joinS, gd, gs, c_4, c_11, c_18]; done) | (simp [joinS, gd, gs, c_4, c_11]; done) | (simp [joinS, gd, gs, c_4]; done)), hP⟩) (by first | (simp [joinR, gd, gs, c_4, c_11, c_18, c_30]; done) | (simp [joinR, gd, gs, c_4, c_11, c_18]; done) | (simp [joinR, gd, gs, c_4, c_11]; done) | (simp [joinR, gd, gs, c_4]; done))
theorem nf_X1_grow : nfOk yX1_grow 3 := by unfold nfOk; decide +kernel
set_option maxHeartbeats 4000000 in
set_option maxRecDepth 100000 in
theorem c_X1_grow (l : Launch) (D : va_G) (cI cZ : ClassId) (ρ : Nat → Nat) (ts : Nat) (σ : Nat → Nat → Bool) (κ : Int32) (mk : Nat → Int32) (qu : Nat → Int32) (a : Int32) (b : Int32) (y : Int32) : Wr l yX1_grow wsX1_grow ({ frames := 4, cells := 0, slots := 0, locals := 89 }) [.ref (ρ 0), .int a, .int b, .int y] (XB D cI cZ ρ ts σ κ mk qu) (some (.int (growR σ a b y))) (XS D cI ρ (growS σ a b y) κ) (xA 7 ρ) := by
  refine met_in RX1 (by decide) rfl rfl (Nat.le_of_ble_eq_true rfl) ?_
  intro p e s m below meth c ls S hr hlocks hl hB
  have hx := S.1
  have hb := S.2.1
  have hml := S.2.2.1
  have hown := S.2.2.2.1
  have hts := S.2.2.2.2
  have hl : lv_has ls 6 [(0, .ref (ρ 0)), (1, .int a), (2, .int b), (3, .int y)] := hl
  obtain ⟨⟨held, hRel, hP⟩, hXK⟩ := hB
  have hK := hXK.1
  have hS : va_S (xA 7 ρ) s.heap s.heap [] := va_S.rf
  refine lv_iload_n hx hb dX1_grow_0 rfl (lv_at hl 1 rfl) ?_
  refine rd_S S hl (c_X1_isSlot l a) HB.tt gX1_grow_X1_isSlot rfl nf_X1_isSlot rfl rfl dX1_grow_1  (fun _ _ _ => trivial) ?_
  refine nv_ifz_eq (tgt := 14) hx hb dX1_grow_4 (by decide) (fun c_4 => ?_) (fun c_4 => ?_)
  ·
    refine lv_iconst (v := (-1)) hx hb dX1_grow_14 (by decide) ?_
    exact ret_wi hx hb hr hlocks dX1_grow_15 hS (⟨_, _, held, hRel.eq (by first | (simp [growS, gd, gs, c_4, c_11]; done) | (simp [growS, gd, gs, c_4]; done)), hP⟩) (by first | (simp [growR, gd, gs, c_4, c_11]; done) | (simp [growR, gd, gs, c_4]; done))
  ·
    obtain ⟨sl, hsl, hxsl⟩ := wI_nat c_4 (by decide)
    subst hxsl
    have hcsl : (nI sl).toNatClampNeg = sl := nI_clamp (by omega)
    refine lv_iload_n hx hb dX1_grow_7 rfl (lv_at hl 2 rfl) ?_
    refine rd_S S hl (c_X1_isSlot l b) HB.tt gX1_grow_X1_isSlot rfl nf_X1_isSlot rfl rfl dX1_grow_8  (fun _ _ _ => trivial) ?_
    refine nv_ifz_ne (tgt := 16) hx hb dX1_grow_11 (by decide) (fun c_11 => ?_) (fun c_11 => ?_)
    ·
      obtain ⟨fr, hfr, hxfr⟩ := wI_nat c_11 (by decide)
      subst hxfr
      have hcfr : (nI fr).toNatClampNeg = fr := nI_clamp (by omega)
      refine lv_iload_n hx hb dX1_grow_16 rfl (lv_at hl 3 rfl) ?_
      refine lv_iconst (v := nI 1) hx hb dX1_grow_17 (by decide) ?_
      refine lv_icmp_eq (tgt := 29) hx hb dX1_grow_18 (by decide) (fun c_18 => ?_) (fun c_18 => ?_)
      ·
        have hok : growO y = true := by simp [growO, c_18]
        refine lv_iconst (v := nI 0) hx hb dX1_grow_29 (by decide) ?_
        refine lv_istore (lv' := [(4, .int (nI 0)), (0, .ref (ρ 0)), (1, .int (nI sl)), (2, .int (nI fr)), (3, .int y)]) hx hb dX1_grow_30 hl (by decide) rfl (fun ls hl => ?_)
        have loop_32 : ∀ (n : Nat) (i : Nat) (m1 : Nat → Int32), (i ≤ 2401) → (∀ j, j < i → m1 j = bI (growP (σ fr) (decide (y = nI 1)) j)) → 2401 - i < n → ∀ (x4 : Int32), x4 = nI i → ∀ (H : Heap) (locs : List Loc), va_S (xA 7 ρ) s.heap H locs → XP D cI ρ σ κ m1 qu H → ∀ ls : Array Slot, lv_has ls 6 [(0, .ref (ρ 0)), (1, .int (nI sl)), (2, .int (nI fr)), (3, .int y), (4, .int x4)] → W p l e (headSpec wsX1_grow ({ frames := 4, cells := 0, slots := 0, locals := 89 })).room s m [.ref (ρ 0), .int (nI sl), .int (nI fr), .int y].toArray below meth c H locs 0 0 (MQ below (qW (some (.int (growR σ (nI sl) (nI fr) y))) (XS D cI ρ (growS σ (nI sl) (nI fr) y) κ) (xA 7 ρ)) [.ref (ρ 0), .int (nI sl), .int (nI fr), .int y].toArray s 0 0 (xA 7 ρ)) (F0 m 32 ls []) := by
          intro n
          induction n with
          | zero => intro i m1 hi hmk hm; exact absurd hm (Nat.not_lt_zero _)
          | succ n ih_32 =>
            intro i m1 hi hmk hm_32 x4 e4 H locs hS hPP ls hl
            subst e4
            obtain ⟨held, hRel, hP⟩ := hPP
            refine lv_iload hx hb dX1_grow_32 (lv_at hl 4 rfl) ?_
            refine lv_aload_n hx hb dX1_grow_34 rfl (lv_at hl 0 rfl) ?_
            refine va_get (D := D) (ci := 1) (v := .ref (ρ 3)) (C := RX1) (T := TX1) (N := 5) hx hb hts (by decide +kernel) hown hK hP 0 rfl rfl 3 (by decide) (hts (.fieldLink RX1 24 "SevenKeys" "marks" "[I") (by decide +kernel)) (fun _ h9 => h9) rfl dX1_grow_35 ?_
            refine va_alen hx hb hK hP 3 0 rfl rfl (v := nI 2401) rfl dX1_grow_38 ?_
            refine nv_icmp_ge (tgt := 89) hx hb dX1_grow_39 (by decide) (by omega) (by omega) (fun c_39 => ?_) (fun c_39 => ?_)
            ·
              refine lv_iconst (v := nI 0) hx hb dX1_grow_89 (by decide) ?_
              refine lv_istore (lv' := [(4, .int (nI 0)), (0, .ref (ρ 0)), (1, .int (nI sl)), (2, .int (nI fr)), (3, .int y)]) hx hb dX1_grow_90 hl (by decide) rfl (fun ls hl => ?_)
              have hmk : ∀ j, j < 2401 → m1 j = bI (growP (σ fr) (decide (y = nI 1)) j) := fun j hj => hmk j (by omega)
              have loop_92 : ∀ (n : Nat) (i : Nat), (i ≤ 2401) → 2401 - i < n → ∀ (x4 : Int32), x4 = nI i → ∀ (H : Heap) (locs : List Loc), va_S (xA 7 ρ) s.heap H locs → XP D cI ρ (mdS σ sl 0 i (growP (σ fr) (decide (y = nI 1)))) κ m1 qu H → ∀ ls : Array Slot, lv_has ls 6 [(0, .ref (ρ 0)), (1, .int (nI sl)), (2, .int (nI fr)), (3, .int y), (4, .int x4)] → W p l e (headSpec wsX1_grow ({ frames := 4, cells := 0, slots := 0, locals := 89 })).room s m [.ref (ρ 0), .int (nI sl), .int (nI fr), .int y].toArray below meth c H locs 0 0 (MQ below (qW (some (.int (growR σ (nI sl) (nI fr) y))) (XS D cI ρ (growS σ (nI sl) (nI fr) y) κ) (xA 7 ρ)) [.ref (ρ 0), .int (nI sl), .int (nI fr), .int y].toArray s 0 0 (xA 7 ρ)) (F0 m 92 ls []) := by
                intro n
                induction n with
                | zero => intro i hi hm; exact absurd hm (Nat.not_lt_zero _)
                | succ n ih_92 =>
                  intro i hi hm_92 x4 e4 H locs hS hPP ls hl
                  subst e4
                  obtain ⟨held, hRel, hP⟩ := hPP
                  refine lv_iload hx hb dX1_grow_92 (lv_at hl 4 rfl) ?_
                  refine lv_aload_n hx hb dX1_grow_94 rfl (lv_at hl 0 rfl) ?_
                  refine va_get (D := D) (ci := 1) (v := .ref (ρ 3)) (C := RX1) (T := TX1) (N := 5) hx hb hts (by decide +kernel) hown hK hP 0 rfl rfl 3 (by decide) (hts (.fieldLink RX1 24 "SevenKeys" "marks" "[I") (by decide +kernel)) (fun _ h9 => h9) rfl dX1_grow_95 ?_
                  refine va_alen hx hb hK hP 3 0 rfl rfl (v := nI 2401) rfl dX1_grow_98 ?_
                  refine nv_icmp_ge (tgt := 131) hx hb dX1_grow_99 (by decide) (by omega) (by omega) (fun c_99 => ?_) (fun c_99 => ?_)
                  ·
                    refine lv_aload_n hx hb dX1_grow_131 rfl (lv_at hl 0 rfl) ?_
                    refine lv_iload_n hx hb dX1_grow_132 rfl (lv_at hl 1 rfl) ?_
                    refine rd_V S hl (c_X1_sizeOf l D cI cZ ρ ts (mdS σ sl 0 i (growP (σ fr) (decide (y = nI 1)))) κ m1 qu sl (by omega)) XB.hb gX1_grow_X1_sizeOf rfl rfl nf_X1_sizeOf rfl rfl dX1_grow_133 (XP.rc0 hXK hP) (XB.at hXK hS ⟨held, hRel, hP⟩) ?_
                    have hi2 : i = 2401 := by omega
                    have e : growS σ (nI sl) (nI fr) y = mdS σ sl 0 i (growP (σ fr) (decide (y = nI 1))) := by rw [hi2]; simp [growS, c_4, c_11, hok, hcsl, hcfr]
                    exact ret_wi hx hb hr hlocks dX1_grow_136 hS (⟨_, _, held, hRel.eq e, hP⟩) (by unfold growR; rw [e]; simp [gs, c_4, c_11, hok, hcsl])
                  ·
                    refine lv_aload_n hx hb dX1_grow_102 rfl (lv_at hl 0 rfl) ?_
                    refine lv_iload_n hx hb dX1_grow_103 rfl (lv_at hl 1 rfl) ?_
                    refine lv_iload hx hb dX1_grow_104 (lv_at hl 4 rfl) ?_
                    refine lv_aload_n hx hb dX1_grow_106 rfl (lv_at hl 0 rfl) ?_
                    refine va_get (D := D) (ci := 1) (v := .ref (ρ 3)) (C := RX1) (T := TX1) (N := 5) hx hb hts (by decide +kernel) hown hK hP 0 rfl rfl 3 (by decide) (hts (.fieldLink RX1 24 "SevenKeys" "marks" "[I") (by decide +kernel)) (fun _ h9 => h9) rfl dX1_grow_107 ?_
                    refine lv_iload hx hb dX1_grow_110 (lv_at hl 4 rfl) ?_
                    refine nv_iald hx hb hK hP 3 0 rfl rfl (by omega) (by decide) dX1_grow_112 ?_
                    refine nv_as (bI (growP (σ fr) (decide (y = nI 1)) i)) (by exact hmk i (by omega)) ?_
                    refine lv_iconst (v := nI 1) hx hb dX1_grow_113 (by decide) ?_
                    refine lv_icmp_ne (tgt := 121) hx hb dX1_grow_114 (by decide) (fun c_114 => ?_) (fun c_114 => ?_)
                    ·
                      have cc := bI_not1 c_114
                      refine lv_iconst (v := nI 0) hx hb dX1_grow_121 (by decide) ?_
                      refine wr_V S hl (c_X1_place l D cI cZ ρ ts (mdS σ sl 0 i (growP (σ fr) (decide (y = nI 1)))) κ m1 qu sl i false (by omega) (by omega)) XB.hb gX1_grow_X1_place rfl rfl nf_X1_place rfl rfl dX1_grow_122 (XP.rc0 hXK hP) (XB.at hXK hS ⟨held, hRel, hP⟩) hS (fun _ h => h) (fun H locs hPP hS _ hkp => ?_)
                      obtain ⟨held, hRel, hP⟩ := hPP
                      refine W.eq (g2 := F0 m 125 ls []) rfl ?_
                      refine lv_iinc (v := nI (i + 1)) (lv' := [(4, .int (nI (i + 1))), (0, .ref (ρ 0)), (1, .int (nI sl)), (2, .int (nI fr)), (3, .int y)]) hx hb dX1_grow_125 hl (k := 4) rfl (inc_nI _) (by decide) rfl (fun ls hl => ?_)
                      refine lv_goto (tgt := 92) hx hb dX1_grow_128 (by decide) ?_
                      exact ih_92 (i + 1) (by omega) (by omega) _ (by first | rfl | exact congrArg nI (by omega)) _ _ hS ⟨held, hRel.eq (md_step (by rw [cc]) (by omega)).symm, hP⟩ _ (lv_sub hl [1, 2, 3, 4, 0] rfl)
                    ·
                      have cc := bI_is1 c_114
                      refine lv_iconst (v := nI 1) hx hb dX1_grow_117 (by decide) ?_
                      refine lv_goto (tgt := 122) hx hb dX1_grow_118 (by decide) ?_
                      refine wr_V S hl (c_X1_place l D cI cZ ρ ts (mdS σ sl 0 i (growP (σ fr) (decide (y = nI 1)))) κ m1 qu sl i true (by omega) (by omega)) XB.hb gX1_grow_X1_place rfl rfl nf_X1_place rfl rfl dX1_grow_122 (XP.rc0 hXK hP) (XB.at hXK hS ⟨held, hRel, hP⟩) hS (fun _ h => h) (fun H locs hPP hS _ hkp => ?_)
                      obtain ⟨held, hRel, hP⟩ := hPP
                      refine W.eq (g2 := F0 m 125 ls []) rfl ?_
                      refine lv_iinc (v := nI (i + 1)) (lv' := [(4, .int (nI (i + 1))), (0, .ref (ρ 0)), (1, .int (nI sl)), (2, .int (nI fr)), (3, .int y)]) hx hb dX1_grow_125 hl (k := 4) rfl (inc_nI _) (by decide) rfl (fun ls hl => ?_)
                      refine lv_goto (tgt := 92) hx hb dX1_grow_128 (by decide) ?_
                      exact ih_92 (i + 1) (by omega) (by omega) _ (by first | rfl | exact congrArg nI (by omega)) _ _ hS ⟨held, hRel.eq (md_step (by rw [cc]) (by omega)).symm, hP⟩ _ (lv_sub hl [1, 2, 3, 4, 0] rfl)
              exact loop_92 (2401 - 0 + 1) 0 (by omega) (Nat.lt_succ_self _) _ rfl _ _ hS ⟨held, hRel.eq md_0, hP⟩ _ (lv_sub hl [1, 2, 3, 4, 0] rfl)
            ·
              refine lv_iload_n hx hb dX1_grow_42 rfl (lv_at hl 3 rfl) ?_
              refine lv_iconst (v := nI 1) hx hb dX1_grow_43 (by decide) ?_
              refine lv_icmp_ne (tgt := 57) hx hb dX1_grow_44 (by decide) (fun c_44 => ?_) (fun c_44 => ?_)
              ·
                refine lv_aload_n hx hb dX1_grow_57 rfl (lv_at hl 0 rfl) ?_
                refine lv_iload_n hx hb dX1_grow_58 rfl (lv_at hl 2 rfl) ?_
                refine lv_iload hx hb dX1_grow_59 (lv_at hl 4 rfl) ?_
                refine rd_V S hl (c_X1_isDeepIn l D cI cZ ρ ts σ κ m1 qu fr i (by omega) (by omega)) XB.hb gX1_grow_X1_isDeepIn rfl rfl nf_X1_isDeepIn rfl rfl dX1_grow_61 (XP.rc0 hXK hP) (XB.at hXK hS ⟨held, hRel, hP⟩) ?_
                refine lv_istore (lv' := [(5, .int (bI (σ fr i && decide (nbc (σ fr) i = 6)))), (0, .ref (ρ 0)), (1, .int (nI sl)), (2, .int (nI fr)), (3, .int y), (4, .int (nI i))]) hx hb dX1_grow_64 hl (by decide) rfl (fun ls hl => ?_)
                refine lv_aload_n hx hb dX1_grow_66 rfl (lv_at hl 1 rfl) ?_
                refine va_get (D := D) (ci := 1) (v := .ref (ρ 3)) (C := RX1) (T := TX1) (N := 5) hx hb hts (by decide +kernel) hown hK hP 0 rfl rfl 3 (by decide) (hts (.fieldLink RX1 24 "SevenKeys" "marks" "[I") (by decide +kernel)) (fun _ h9 => h9) rfl dX1_grow_67 ?_
                refine lv_iload hx hb dX1_grow_70 (lv_at hl 5 rfl) ?_
                refine lv_iload hx hb dX1_grow_72 (lv_at hl 0 rfl) ?_
                refine nv_ifz_eq (tgt := 81) hx hb dX1_grow_74 (by decide) (fun c_74 => ?_) (fun c_74 => ?_)
                ·
                  refine lv_iconst (v := nI 0) hx hb dX1_grow_81 (by decide) ?_
                  refine nv_iast hx hb hK hP hXK.D hS 3 0 rfl rfl (by omega) (by decide) dX1_grow_82 (fun H locs hP hS => ?_)
                  have hP : va_P D vwCl (xW cI ρ held κ (upd m1 i (nI 0)) qu) H := hP
                  refine lv_iinc (v := nI (i + 1)) (lv' := [(4, .int (nI (i + 1))), (5, .int (bI (σ fr i && decide (nbc (σ fr) i = 6)))), (0, .ref (ρ 0)), (1, .int (nI sl)), (2, .int (nI fr)), (3, .int y)]) hx hb dX1_grow_83 hl (k := 5) rfl (inc_nI _) (by decide) rfl (fun ls hl => ?_)
                  refine lv_goto (tgt := 32) hx hb dX1_grow_86 (by decide) ?_
                  exact ih_32 (i + 1) (upd m1 i (nI 0)) (by omega) (by exact mk_step hmk (by unfold growP; first | (rw [decide_eq_true c_44]; exact congrArg bI c_74.symm) | (rw [decide_eq_false c_44]; exact congrArg bI c_74.symm))) (by omega) _ (by first | rfl | exact congrArg nI (by omega)) _ _ hS ⟨held, hRel, hP⟩ _ (lv_sub hl [2, 3, 4, 5, 0] rfl)
                ·
                  refine lv_iconst (v := nI 1) hx hb dX1_grow_77 (by decide) ?_
                  refine lv_goto (tgt := 82) hx hb dX1_grow_78 (by decide) ?_
                  refine nv_iast hx hb hK hP hXK.D hS 3 0 rfl rfl (by omega) (by decide) dX1_grow_82 (fun H locs hP hS => ?_)
                  have hP : va_P D vwCl (xW cI ρ held κ (upd m1 i (nI 1)) qu) H := hP
                  refine lv_iinc (v := nI (i + 1)) (lv' := [(4, .int (nI (i + 1))), (5, .int (bI (σ fr i && decide (nbc (σ fr) i = 6)))), (0, .ref (ρ 0)), (1, .int (nI sl)), (2, .int (nI fr)), (3, .int y)]) hx hb dX1_grow_83 hl (k := 5) rfl (inc_nI _) (by decide) rfl (fun ls hl => ?_)
                  refine lv_goto (tgt := 32) hx hb dX1_grow_86 (by decide) ?_
                  exact ih_32 (i + 1) (upd m1 i (nI 1)) (by omega) (by exact mk_step hmk (by unfold growP; first | (rw [decide_eq_true c_44]; exact congrArg bI c_74.symm) | (rw [decide_eq_false c_44]; exact congrArg bI c_74.symm))) (by omega) _ (by first | rfl | exact congrArg nI (by omega)) _ _ hS ⟨held, hRel, hP⟩ _ (lv_sub hl [2, 3, 4, 5, 0] rfl)
              ·
                refine lv_aload_n hx hb dX1_grow_47 rfl (lv_at hl 0 rfl) ?_
                refine lv_iload_n hx hb dX1_grow_48 rfl (lv_at hl 2 rfl) ?_
                refine lv_iload hx hb dX1_grow_49 (lv_at hl 4 rfl) ?_
                refine rd_V S hl (c_X1_isOfOrNextTo l D cI cZ ρ ts σ κ m1 qu fr i (by omega) (by omega)) XB.hb gX1_grow_X1_isOfOrNextTo rfl rfl nf_X1_isOfOrNextTo rfl rfl dX1_grow_51 (XP.rc0 hXK hP) (XB.at hXK hS ⟨held, hRel, hP⟩) ?_
                refine lv_goto (tgt := 64) hx hb dX1_grow_54 (by decide) ?_
                refine lv_istore (lv' := [(5, .int (bI (σ fr i || decide (0 < nbc (σ fr) i)))), (0, .ref (ρ 0)), (1, .int (nI sl)), (2, .int (nI fr)), (3, .int y), (4, .int (nI i))]) hx hb dX1_grow_64 hl (by decide) rfl (fun ls hl => ?_)
                refine lv_aload_n hx hb dX1_grow_66 rfl (lv_at hl 1 rfl) ?_
                refine va_get (D := D) (ci := 1) (v := .ref (ρ 3)) (C := RX1) (T := TX1) (N := 5) hx hb hts (by decide +kernel) hown hK hP 0 rfl rfl 3 (by decide) (hts (.fieldLink RX1 24 "SevenKeys" "marks" "[I") (by decide +kernel)) (fun _ h9 => h9) rfl dX1_grow_67 ?_
                refine lv_iload hx hb dX1_grow_70 (lv_at hl 5 rfl) ?_
                refine lv_iload hx hb dX1_grow_72 (lv_at hl 0 rfl) ?_
                refine nv_ifz_eq (tgt := 81) hx hb dX1_grow_74 (by decide) (fun c_74 => ?_) (fun c_74 => ?_)
                ·
                  refine lv_iconst (v := nI 0) hx hb dX1_grow_81 (by decide) ?_
                  refine nv_iast hx hb hK hP hXK.D hS 3 0 rfl rfl (by omega) (by decide) dX1_grow_82 (fun H locs hP hS => ?_)
                  have hP : va_P D vwCl (xW cI ρ held κ (upd m1 i (nI 0)) qu) H := hP
                  refine lv_iinc (v := nI (i + 1)) (lv' := [(4, .int (nI (i + 1))), (5, .int (bI (σ fr i || decide (0 < nbc (σ fr) i)))), (0, .ref (ρ 0)), (1, .int (nI sl)), (2, .int (nI fr)), (3, .int y)]) hx hb dX1_grow_83 hl (k := 5) rfl (inc_nI _) (by decide) rfl (fun ls hl => ?_)
                  refine lv_goto (tgt := 32) hx hb dX1_grow_86 (by decide) ?_
                  exact ih_32 (i + 1) (upd m1 i (nI 0)) (by omega) (by exact mk_step hmk (by unfold growP; first | (rw [decide_eq_true c_44]; exact congrArg bI c_74.symm) | (rw [decide_eq_false c_44]; exact congrArg bI c_74.symm))) (by omega) _ (by first | rfl | exact congrArg nI (by omega)) _ _ hS ⟨held, hRel, hP⟩ _ (lv_sub hl [2, 3, 4, 5, 0] rfl)
                ·
                  refine lv_iconst (v := nI 1) hx hb dX1_grow_77 (by decide) ?_
                  refine lv_goto (tgt := 82) hx hb dX1_grow_78 (by decide) ?_
                  refine nv_iast hx hb hK hP hXK.D hS 3 0 rfl rfl (by omega) (by decide) dX1_grow_82 (fun H locs hP hS => ?_)
                  have hP : va_P D vwCl (xW cI ρ held κ (upd m1 i (nI 1)) qu) H := hP
                  refine lv_iinc (v := nI (i + 1)) (lv' := [(4, .int (nI (i + 1))), (5, .int (bI (σ fr i || decide (0 < nbc (σ fr) i)))), (0, .ref (ρ 0)), (1, .int (nI sl)), (2, .int (nI fr)), (3, .int y)]) hx hb dX1_grow_83 hl (k := 5) rfl (inc_nI _) (by decide) rfl (fun ls hl => ?_)
                  refine lv_goto (tgt := 32) hx hb dX1_grow_86 (by decide) ?_
                  exact ih_32 (i + 1) (upd m1 i (nI 1)) (by omega) (by exact mk_step hmk (by unfold growP; first | (rw [decide_eq_true c_44]; exact congrArg bI c_74.symm) | (rw [decide_eq_false c_44]; exact congrArg bI c_74.symm))) (by omega) _ (by first | rfl | exact congrArg nI (by omega)) _ _ hS ⟨held, hRel, hP⟩ _ (lv_sub hl [2, 3, 4, 5, 0] rfl)
        exact loop_32 (2401 - 0 + 1) 0 mk (by omega) (by exact lt_0) (Nat.lt_succ_self _) _ rfl _ _ hS ⟨held, hRel, hP⟩ _ (lv_sub hl [1, 2, 3, 4, 0] rfl)
      ·
        refine lv_iload_n hx hb dX1_grow_21 rfl (lv_at hl 3 rfl) ?_
        refine lv_iconst (v := (-1)) hx hb dX1_grow_22 (by decide) ?_
        refine lv_icmp_eq (tgt := 29) hx hb dX1_grow_23 (by decide) (fun c_23 => ?_) (fun c_23 => ?_)
        ·
          have hok : growO y = true := by simp [growO, c_23]
          refine lv_iconst (v := nI 0) hx hb dX1_grow_29 (by decide) ?_
          refine lv_istore (lv' := [(4, .int (nI 0)), (0, .ref (ρ 0)), (1, .int (nI sl)), (2, .int (nI fr)), (3, .int y)]) hx hb dX1_grow_30 hl (by decide) rfl (fun ls hl => ?_)
          have loop_32 : ∀ (n : Nat) (i : Nat) (m1 : Nat → Int32), (i ≤ 2401) → (∀ j, j < i → m1 j = bI (growP (σ fr) (decide (y = nI 1)) j)) → 2401 - i < n → ∀ (x4 : Int32), x4 = nI i → ∀ (H : Heap) (locs : List Loc), va_S (xA 7 ρ) s.heap H locs → XP D cI ρ σ κ m1 qu H → ∀ ls : Array Slot, lv_has ls 6 [(0, .ref (ρ 0)), (1, .int (nI sl)), (2, .int (nI fr)), (3, .int y), (4, .int x4)] → W p l e (headSpec wsX1_grow ({ frames := 4, cells := 0, slots := 0, locals := 89 })).room s m [.ref (ρ 0), .int (nI sl), .int (nI fr), .int y].toArray below meth c H locs 0 0 (MQ below (qW (some (.int (growR σ (nI sl) (nI fr) y))) (XS D cI ρ (growS σ (nI sl) (nI fr) y) κ) (xA 7 ρ)) [.ref (ρ 0), .int (nI sl), .int (nI fr), .int y].toArray s 0 0 (xA 7 ρ)) (F0 m 32 ls []) := by
            intro n
            induction n with
            | zero => intro i m1 hi hmk hm; exact absurd hm (Nat.not_lt_zero _)
            | succ n ih_32 =>
              intro i m1 hi hmk hm_32 x4 e4 H locs hS hPP ls hl
              subst e4
              obtain ⟨held, hRel, hP⟩ := hPP
              refine lv_iload hx hb dX1_grow_32 (lv_at hl 4 rfl) ?_
              refine lv_aload_n hx hb dX1_grow_34 rfl (lv_at hl 0 rfl) ?_
              refine va_get (D := D) (ci := 1) (v := .ref (ρ 3)) (C := RX1) (T := TX1) (N := 5) hx hb hts (by decide +kernel) hown hK hP 0 rfl rfl 3 (by decide) (hts (.fieldLink RX1 24 "SevenKeys" "marks" "[I") (by decide +kernel)) (fun _ h9 => h9) rfl dX1_grow_35 ?_
              refine va_alen hx hb hK hP 3 0 rfl rfl (v := nI 2401) rfl dX1_grow_38 ?_
              refine nv_icmp_ge (tgt := 89) hx hb dX1_grow_39 (by decide) (by omega) (by omega) (fun c_39 => ?_) (fun c_39 => ?_)
              ·
                refine lv_iconst (v := nI 0) hx hb dX1_grow_89 (by decide) ?_
                refine lv_istore (lv' := [(4, .int (nI 0)), (0, .ref (ρ 0)), (1, .int (nI sl)), (2, .int (nI fr)), (3, .int y)]) hx hb dX1_grow_90 hl (by decide) rfl (fun ls hl => ?_)
                have hmk : ∀ j, j < 2401 → m1 j = bI (growP (σ fr) (decide (y = nI 1)) j) := fun j hj => hmk j (by omega)
                have loop_92 : ∀ (n : Nat) (i : Nat), (i ≤ 2401) → 2401 - i < n → ∀ (x4 : Int32), x4 = nI i → ∀ (H : Heap) (locs : List Loc), va_S (xA 7 ρ) s.heap H locs → XP D cI ρ (mdS σ sl 0 i (growP (σ fr) (decide (y = nI 1)))) κ m1 qu H → ∀ ls : Array Slot, lv_has ls 6 [(0, .ref (ρ 0)), (1, .int (nI sl)), (2, .int (nI fr)), (3, .int y), (4, .int x4)] → W p l e (headSpec wsX1_grow ({ frames := 4, cells := 0, slots := 0, locals := 89 })).room s m [.ref (ρ 0), .int (nI sl), .int (nI fr), .int y].toArray below meth c H locs 0 0 (MQ below (qW (some (.int (growR σ (nI sl) (nI fr) y))) (XS D cI ρ (growS σ (nI sl) (nI fr) y) κ) (xA 7 ρ)) [.ref (ρ 0), .int (nI sl), .int (nI fr), .int y].toArray s 0 0 (xA 7 ρ)) (F0 m 92 ls []) := by
                  intro n
                  induction n with
                  | zero => intro i hi hm; exact absurd hm (Nat.not_lt_zero _)
                  | succ n ih_92 =>
                    intro i hi hm_92 x4 e4 H locs hS hPP ls hl
                    subst e4
                    obtain ⟨held, hRel, hP⟩ := hPP
                    refine lv_iload hx hb dX1_grow_92 (lv_at hl 4 rfl) ?_
                    refine lv_aload_n hx hb dX1_grow_94 rfl (lv_at hl 0 rfl) ?_
                    refine va_get (D := D) (ci := 1) (v := .ref (ρ 3)) (C := RX1) (T := TX1) (N := 5) hx hb hts (by decide +kernel) hown hK hP 0 rfl rfl 3 (by decide) (hts (.fieldLink RX1 24 "SevenKeys" "marks" "[I") (by decide +kernel)) (fun _ h9 => h9) rfl dX1_grow_95 ?_
                    refine va_alen hx hb hK hP 3 0 rfl rfl (v := nI 2401) rfl dX1_grow_98 ?_
                    refine nv_icmp_ge (tgt := 131) hx hb dX1_grow_99 (by decide) (by omega) (by omega) (fun c_99 => ?_) (fun c_99 => ?_)
                    ·
                      refine lv_aload_n hx hb dX1_grow_131 rfl (lv_at hl 0 rfl) ?_
                      refine lv_iload_n hx hb dX1_grow_132 rfl (lv_at hl 1 rfl) ?_
                      refine rd_V S hl (c_X1_sizeOf l D cI cZ ρ ts (mdS σ sl 0 i (growP (σ fr) (decide (y = nI 1)))) κ m1 qu sl (by omega)) XB.hb gX1_grow_X1_sizeOf rfl rfl nf_X1_sizeOf rfl rfl dX1_grow_133 (XP.rc0 hXK hP) (XB.at hXK hS ⟨held, hRel, hP⟩) ?_
                      have hi2 : i = 2401 := by omega
                      have e : growS σ (nI sl) (nI fr) y = mdS σ sl 0 i (growP (σ fr) (decide (y = nI 1))) := by rw [hi2]; simp [growS, c_4, c_11, hok, hcsl, hcfr]
                      exact ret_wi hx hb hr hlocks dX1_grow_136 hS (⟨_, _, held, hRel.eq e, hP⟩) (by unfold growR; rw [e]; simp [gs, c_4, c_11, hok, hcsl])
                    ·
                      refine lv_aload_n hx hb dX1_grow_102 rfl (lv_at hl 0 rfl) ?_
                      refine lv_iload_n hx hb dX1_grow_103 rfl (lv_at hl 1 rfl) ?_
                      refine lv_iload hx hb dX1_grow_104 (lv_at hl 4 rfl) ?_
                      refine lv_aload_n hx hb dX1_grow_106 rfl (lv_at hl 0 rfl) ?_
                      refine va_get (D := D) (ci := 1) (v := .ref (ρ 3)) (C := RX1) (T := TX1) (N := 5) hx hb hts (by decide +kernel) hown hK hP 0 rfl rfl 3 (by decide) (hts (.fieldLink RX1 24 "SevenKeys" "marks" "[I") (by decide +kernel)) (fun _ h9 => h9) rfl dX1_grow_107 ?_
                      refine lv_iload hx hb dX1_grow_110 (lv_at hl 4 rfl) ?_
                      refine nv_iald hx hb hK hP 3 0 rfl rfl (by omega) (by decide) dX1_grow_112 ?_
                      refine nv_as (bI (growP (σ fr) (decide (y = nI 1)) i)) (by exact hmk i (by omega)) ?_
                      refine lv_iconst (v := nI 1) hx hb dX1_grow_113 (by decide) ?_
                      refine lv_icmp_ne (tgt := 121) hx hb dX1_grow_114 (by decide) (fun c_114 => ?_) (fun c_114 => ?_)
                      ·
                        have cc := bI_not1 c_114
                        refine lv_iconst (v := nI 0) hx hb dX1_grow_121 (by decide) ?_
                        refine wr_V S hl (c_X1_place l D cI cZ ρ ts (mdS σ sl 0 i (growP (σ fr) (decide (y = nI 1)))) κ m1 qu sl i false (by omega) (by omega)) XB.hb gX1_grow_X1_place rfl rfl nf_X1_place rfl rfl dX1_grow_122 (XP.rc0 hXK hP) (XB.at hXK hS ⟨held, hRel, hP⟩) hS (fun _ h => h) (fun H locs hPP hS _ hkp => ?_)
                        obtain ⟨held, hRel, hP⟩ := hPP
                        refine W.eq (g2 := F0 m 125 ls []) rfl ?_
                        refine lv_iinc (v := nI (i + 1)) (lv' := [(4, .int (nI (i + 1))), (0, .ref (ρ 0)), (1, .int (nI sl)), (2, .int (nI fr)), (3, .int y)]) hx hb dX1_grow_125 hl (k := 4) rfl (inc_nI _) (by decide) rfl (fun ls hl => ?_)
                        refine lv_goto (tgt := 92) hx hb dX1_grow_128 (by decide) ?_
                        exact ih_92 (i + 1) (by omega) (by omega) _ (by first | rfl | exact congrArg nI (by omega)) _ _ hS ⟨held, hRel.eq (md_step (by rw [cc]) (by omega)).symm, hP⟩ _ (lv_sub hl [1, 2, 3, 4, 0] rfl)
                      ·
                        have cc := bI_is1 c_114
                        refine lv_iconst (v := nI 1) hx hb dX1_grow_117 (by decide) ?_
                        refine lv_goto (tgt := 122) hx hb dX1_grow_118 (by decide) ?_
                        refine wr_V S hl (c_X1_place l D cI cZ ρ ts (mdS σ sl 0 i (growP (σ fr) (decide (y = nI 1)))) κ m1 qu sl i true (by omega) (by omega)) XB.hb gX1_grow_X1_place rfl rfl nf_X1_place rfl rfl dX1_grow_122 (XP.rc0 hXK hP) (XB.at hXK hS ⟨held, hRel, hP⟩) hS (fun _ h => h) (fun H locs hPP hS _ hkp => ?_)
                        obtain ⟨held, hRel, hP⟩ := hPP
                        refine W.eq (g2 := F0 m 125 ls []) rfl ?_
                        refine lv_iinc (v := nI (i + 1)) (lv' := [(4, .int (nI (i + 1))), (0, .ref (ρ 0)), (1, .int (nI sl)), (2, .int (nI fr)), (3, .int y)]) hx hb dX1_grow_125 hl (k := 4) rfl (inc_nI _) (by decide) rfl (fun ls hl => ?_)
                        refine lv_goto (tgt := 92) hx hb dX1_grow_128 (by decide) ?_
                        exact ih_92 (i + 1) (by omega) (by omega) _ (by first | rfl | exact congrArg nI (by omega)) _ _ hS ⟨held, hRel.eq (md_step (by rw [cc]) (by omega)).symm, hP⟩ _ (lv_sub hl [1, 2, 3, 4, 0] rfl)
                exact loop_92 (2401 - 0 + 1) 0 (by omega) (Nat.lt_succ_self _) _ rfl _ _ hS ⟨held, hRel.eq md_0, hP⟩ _ (lv_sub hl [1, 2, 3, 4, 0] rfl)
              ·
                refine lv_iload_n hx hb dX1_grow_42 rfl (lv_at hl 3 rfl) ?_
                refine lv_iconst (v := nI 1) hx hb dX1_grow_43 (by decide) ?_
                refine lv_icmp_ne (tgt := 57) hx hb dX1_grow_44 (by decide) (fun c_44 => ?_) (fun c_44 => ?_)
                ·
                  refine lv_aload_n hx hb dX1_grow_57 rfl (lv_at hl 0 rfl) ?_
                  refine lv_iload_n hx hb dX1_grow_58 rfl (lv_at hl 2 rfl) ?_
                  refine lv_iload hx hb dX1_grow_59 (lv_at hl 4 rfl) ?_
                  refine rd_V S hl (c_X1_isDeepIn l D cI cZ ρ ts σ κ m1 qu fr i (by omega) (by omega)) XB.hb gX1_grow_X1_isDeepIn rfl rfl nf_X1_isDeepIn rfl rfl dX1_grow_61 (XP.rc0 hXK hP) (XB.at hXK hS ⟨held, hRel, hP⟩) ?_
                  refine lv_istore (lv' := [(5, .int (bI (σ fr i && decide (nbc (σ fr) i = 6)))), (0, .ref (ρ 0)), (1, .int (nI sl)), (2, .int (nI fr)), (3, .int y), (4, .int (nI i))]) hx hb dX1_grow_64 hl (by decide) rfl (fun ls hl => ?_)
                  refine lv_aload_n hx hb dX1_grow_66 rfl (lv_at hl 1 rfl) ?_
                  refine va_get (D := D) (ci := 1) (v := .ref (ρ 3)) (C := RX1) (T := TX1) (N := 5) hx hb hts (by decide +kernel) hown hK hP 0 rfl rfl 3 (by decide) (hts (.fieldLink RX1 24 "SevenKeys" "marks" "[I") (by decide +kernel)) (fun _ h9 => h9) rfl dX1_grow_67 ?_
                  refine lv_iload hx hb dX1_grow_70 (lv_at hl 5 rfl) ?_
                  refine lv_iload hx hb dX1_grow_72 (lv_at hl 0 rfl) ?_
                  refine nv_ifz_eq (tgt := 81) hx hb dX1_grow_74 (by decide) (fun c_74 => ?_) (fun c_74 => ?_)
                  ·
                    refine lv_iconst (v := nI 0) hx hb dX1_grow_81 (by decide) ?_
                    refine nv_iast hx hb hK hP hXK.D hS 3 0 rfl rfl (by omega) (by decide) dX1_grow_82 (fun H locs hP hS => ?_)
                    have hP : va_P D vwCl (xW cI ρ held κ (upd m1 i (nI 0)) qu) H := hP
                    refine lv_iinc (v := nI (i + 1)) (lv' := [(4, .int (nI (i + 1))), (5, .int (bI (σ fr i && decide (nbc (σ fr) i = 6)))), (0, .ref (ρ 0)), (1, .int (nI sl)), (2, .int (nI fr)), (3, .int y)]) hx hb dX1_grow_83 hl (k := 5) rfl (inc_nI _) (by decide) rfl (fun ls hl => ?_)
                    refine lv_goto (tgt := 32) hx hb dX1_grow_86 (by decide) ?_
                    exact ih_32 (i + 1) (upd m1 i (nI 0)) (by omega) (by exact mk_step hmk (by unfold growP; first | (rw [decide_eq_true c_44]; exact congrArg bI c_74.symm) | (rw [decide_eq_false c_44]; exact congrArg bI c_74.symm))) (by omega) _ (by first | rfl | exact congrArg nI (by omega)) _ _ hS ⟨held, hRel, hP⟩ _ (lv_sub hl [2, 3, 4, 5, 0] rfl)
                  ·
                    refine lv_iconst (v := nI 1) hx hb dX1_grow_77 (by decide) ?_
                    refine lv_goto (tgt := 82) hx hb dX1_grow_78 (by decide) ?_
                    refine nv_iast hx hb hK hP hXK.D hS 3 0 rfl rfl (by omega) (by decide) dX1_grow_82 (fun H locs hP hS => ?_)
                    have hP : va_P D vwCl (xW cI ρ held κ (upd m1 i (nI 1)) qu) H := hP
                    refine lv_iinc (v := nI (i + 1)) (lv' := [(4, .int (nI (i + 1))), (5, .int (bI (σ fr i && decide (nbc (σ fr) i = 6)))), (0, .ref (ρ 0)), (1, .int (nI sl)), (2, .int (nI fr)), (3, .int y)]) hx hb dX1_grow_83 hl (k := 5) rfl (inc_nI _) (by decide) rfl (fun ls hl => ?_)
                    refine lv_goto (tgt := 32) hx hb dX1_grow_86 (by decide) ?_
                    exact ih_32 (i + 1) (upd m1 i (nI 1)) (by omega) (by exact mk_step hmk (by unfold growP; first | (rw [decide_eq_true c_44]; exact congrArg bI c_74.symm) | (rw [decide_eq_false c_44]; exact congrArg bI c_74.symm))) (by omega) _ (by first | rfl | exact congrArg nI (by omega)) _ _ hS ⟨held, hRel, hP⟩ _ (lv_sub hl [2, 3, 4, 5, 0] rfl)
                ·
                  refine lv_aload_n hx hb dX1_grow_47 rfl (lv_at hl 0 rfl) ?_
                  refine lv_iload_n hx hb dX1_grow_48 rfl (lv_at hl 2 rfl) ?_
                  refine lv_iload hx hb dX1_grow_49 (lv_at hl 4 rfl) ?_
                  refine rd_V S hl (c_X1_isOfOrNextTo l D cI cZ ρ ts σ κ m1 qu fr i (by omega) (by omega)) XB.hb gX1_grow_X1_isOfOrNextTo rfl rfl nf_X1_isOfOrNextTo rfl rfl dX1_grow_51 (XP.rc0 hXK hP) (XB.at hXK hS ⟨held, hRel, hP⟩) ?_
                  refine lv_goto (tgt := 64) hx hb dX1_grow_54 (by decide) ?_
                  refine lv_istore (lv' := [(5, .int (bI (σ fr i || decide (0 < nbc (σ fr) i)))), (0, .ref (ρ 0)), (1, .int (nI sl)), (2, .int (nI fr)), (3, .int y), (4, .int (nI i))]) hx hb dX1_grow_64 hl (by decide) rfl (fun ls hl => ?_)
                  refine lv_aload_n hx hb dX1_grow_66 rfl (lv_at hl 1 rfl) ?_
                  refine va_get (D := D) (ci := 1) (v := .ref (ρ 3)) (C := RX1) (T := TX1) (N := 5) hx hb hts (by decide +kernel) hown hK hP 0 rfl rfl 3 (by decide) (hts (.fieldLink RX1 24 "SevenKeys" "marks" "[I") (by decide +kernel)) (fun _ h9 => h9) rfl dX1_grow_67 ?_
                  refine lv_iload hx hb dX1_grow_70 (lv_at hl 5 rfl) ?_
                  refine lv_iload hx hb dX1_grow_72 (lv_at hl 0 rfl) ?_
                  refine nv_ifz_eq (tgt := 81) hx hb dX1_grow_74 (by decide) (fun c_74 => ?_) (fun c_74 => ?_)
                  ·
                    refine lv_iconst (v := nI 0) hx hb dX1_grow_81 (by decide) ?_
                    refine nv_iast hx hb hK hP hXK.D hS 3 0 rfl rfl (by omega) (by decide) dX1_grow_82 (fun H locs hP hS => ?_)
                    have hP : va_P D vwCl (xW cI ρ held κ (upd m1 i (nI 0)) qu) H := hP
                    refine lv_iinc (v := nI (i + 1)) (lv' := [(4, .int (nI (i + 1))), (5, .int (bI (σ fr i || decide (0 < nbc (σ fr) i)))), (0, .ref (ρ 0)), (1, .int (nI sl)), (2, .int (nI fr)), (3, .int y)]) hx hb dX1_grow_83 hl (k := 5) rfl (inc_nI _) (by decide) rfl (fun ls hl => ?_)
                    refine lv_goto (tgt := 32) hx hb dX1_grow_86 (by decide) ?_
                    exact ih_32 (i + 1) (upd m1 i (nI 0)) (by omega) (by exact mk_step hmk (by unfold growP; first | (rw [decide_eq_true c_44]; exact congrArg bI c_74.symm) | (rw [decide_eq_false c_44]; exact congrArg bI c_74.symm))) (by omega) _ (by first | rfl | exact congrArg nI (by omega)) _ _ hS ⟨held, hRel, hP⟩ _ (lv_sub hl [2, 3, 4, 5, 0] rfl)
                  ·
                    refine lv_iconst (v := nI 1) hx hb dX1_grow_77 (by decide) ?_
                    refine lv_goto (tgt := 82) hx hb dX1_grow_78 (by decide) ?_
                    refine nv_iast hx hb hK hP hXK.D hS 3 0 rfl rfl (by omega) (by decide) dX1_grow_82 (fun H locs hP hS => ?_)
                    have hP : va_P D vwCl (xW cI ρ held κ (upd m1 i (nI 1)) qu) H := hP
                    refine lv_iinc (v := nI (i + 1)) (lv' := [(4, .int (nI (i + 1))), (5, .int (bI (σ fr i || decide (0 < nbc (σ fr) i)))), (0, .ref (ρ 0)), (1, .int (nI sl)), (2, .int (nI fr)), (3, .int y)]) hx hb dX1_grow_83 hl (k := 5) rfl (inc_nI _) (by decide) rfl (fun ls hl => ?_)
                    refine lv_goto (tgt := 32) hx hb dX1_grow_86 (by decide) ?_
                    exact ih_32 (i + 1) (upd m1 i (nI 1)) (by omega) (by exact mk_step hmk (by unfold growP; first | (rw [decide_eq_true c_44]; exact congrArg bI c_74.symm) | (rw [decide_eq_false c_44]; exact congrArg bI c_74.symm))) (by omega) _ (by first | rfl | exact congrArg nI (by omega)) _ _ hS ⟨held, hRel, hP⟩ _ (lv_sub hl [2, 3, 4, 5, 0] rfl)
          exact loop_32 (2401 - 0 + 1) 0 mk (by omega) (by exact lt_0) (Nat.lt_succ_self _) _ rfl _ _ hS ⟨held, hRel, hP⟩ _ (lv_sub hl [1, 2, 3, 4, 0] rfl)
        ·
          refine lv_bipush (v := (-2)) hx hb dX1_grow_26 (by decide) ?_
          exact ret_wi hx hb hr hlocks dX1_grow_28 hS (⟨_, _, held, hRel.eq (by first | (simp [growS, gd, gs, c_4, c_11, growO, c_18, c_23]; done) | (simp [growS, gd, gs, c_4, c_11, growO, c_18]; done) | (simp [growS, gd, gs, c_4, c_11, growO]; done) | (simp [growS, gd, gs, c_4, c_11]; done) | (simp [growS, gd, gs, c_4]; done)), hP⟩) (by first | (simp [growR, gd, gs, c_4, c_11, growO, c_18, c_23]; done) | (simp [growR, gd, gs, c_4, c_11, growO, c_18]; done) | (simp [growR, gd, gs, c_4, c_11, growO]; done) | (simp [growR, gd, gs, c_4, c_11]; done) | (simp [growR, gd, gs, c_4]; done))
    ·
      refine lv_iconst (v := (-1)) hx hb dX1_grow_14 (by decide) ?_
      exact ret_wi hx hb hr hlocks dX1_grow_15 hS (⟨_, _, held, hRel.eq (by first | (simp [growS, gd, gs, c_4, c_11]; done) | (simp [growS, gd, gs, c_4]; done)), hP⟩) (by first | (simp [growR, gd, gs, c_4, c_11]; done) | (simp [growR, gd, gs, c_4]; done))
end
section
theorem pkQ_f1 {A : Nat → Bool} {i : Nat} {x : Int32} (h : i < pkT A i) : pkQ A x i = false := by unfold pkQ; rw [(isP_f1 h).1]; rfl
theorem pkQ_f2 {A : Nat → Bool} {i : Nat} {x : Int32} (h : A i = false) : pkQ A x i = false := by unfold pkQ; rw [(isP_f2 h).1]; rfl
theorem pkQ_f3 {A : Nat → Bool} {i : Nat} {x : Int32} (h : ¬ nI (fb_ct (isP A) i) = x) : pkQ A x i = false := by unfold pkQ; rw [decide_eq_false h, Bool.and_false]
theorem nI_ne6 {k : Nat} (h : k < 2 ^ 31) : ¬ nI k = -6 := by
  intro q
  have h1 : (nI k).toInt = (-6 : Int32).toInt := by rw [q]
  rw [nI_toInt h] at h1
  have h2 : (-6 : Int32).toInt = -6 := by decide
  omega
theorem nf_X1_patchLiesIn : nfOk yX1_patchLiesIn 3 := by unfold nfOk; decide +kernel
set_option maxHeartbeats 4000000 in
set_option maxRecDepth 100000 in
theorem c_X1_patchLiesIn (l : Launch) (D : va_G) (cI cZ : ClassId) (ρ : Nat → Nat) (ts : Nat) (σ : Nat → Nat → Bool) (κ : Int32) (mk : Nat → Int32) (qu : Nat → Int32) (sl : Nat) (k : Nat) (L : Nat) (hsl : sl < 4) (hk : k < 2401) (hL : L ≤ 4) : Rd l yX1_patchLiesIn wsX1_patchLiesIn ({ frames := 2, cells := 0, slots := 0, locals := 45 }) [.ref (ρ 0), .int (nI sl), .int (nI k), .int (nI L)] (XB D cI cZ ρ ts σ κ mk qu) (bI (fitP (σ sl) k L)) := by
  refine met_in RX1 (by decide) rfl rfl (Nat.le_of_ble_eq_true rfl) ?_
  intro p e s m below meth c ls S hr hlocks hl hB
  have hx := S.1
  have hb := S.2.1
  have hml := S.2.2.1
  have hown := S.2.2.2.1
  have hts := S.2.2.2.2
  have hl : lv_has ls 6 [(0, .ref (ρ 0)), (1, .int (nI sl)), (2, .int (nI k)), (3, .int (nI L))] := hl
  obtain ⟨⟨held, hRel, hP⟩, hXK⟩ := hB
  have hK := hXK.1
  have hS : va_S (xA 7 ρ) s.heap s.heap [] := va_S.rf
  refine lv_iload_n hx hb dX1_patchLiesIn_0 rfl (lv_at hl 2 rfl) ?_
  refine lv_iload_n hx hb dX1_patchLiesIn_1 rfl (lv_at hl 3 rfl) ?_
  refine rd_S S hl (c_X1_patchOf l k L (by omega) (by omega)) HB.tt gX1_patchLiesIn_X1_patchOf rfl nf_X1_patchOf rfl rfl dX1_patchLiesIn_2  (fun _ _ _ => trivial) ?_
  refine lv_iload_n hx hb dX1_patchLiesIn_5 rfl (lv_at hl 2 rfl) ?_
  refine nv_icmp_eq (tgt := 11) hx hb dX1_patchLiesIn_6 (by decide) (by exact Nat.lt_of_le_of_lt (Nat.div_mul_le_self _ _) (by omega)) (by omega) (fun c_6 => ?_) (fun c_6 => ?_)
  ·
    refine lv_iload_n hx hb dX1_patchLiesIn_11 rfl (lv_at hl 2 rfl) ?_
    refine lv_iload_n hx hb dX1_patchLiesIn_12 rfl (lv_at hl 3 rfl) ?_
    refine rd_S S hl (c_X1_patchSize l L (by omega)) HB.tt gX1_patchLiesIn_X1_patchSize rfl nf_X1_patchSize rfl rfl dX1_patchLiesIn_13  (fun _ _ _ => trivial) ?_
    refine lv_iadd hx hb dX1_patchLiesIn_16 ?_
    refine nv_as (nI (k + (7 ^ L))) (nI_add _ _) ?_
    refine lv_istore (lv' := [(4, .int (nI (k + (7 ^ L)))), (0, .ref (ρ 0)), (1, .int (nI sl)), (2, .int (nI k)), (3, .int (nI L))]) hx hb dX1_patchLiesIn_17 hl (by decide) rfl (fun ls hl => ?_)
    refine lv_iload_n hx hb dX1_patchLiesIn_19 rfl (lv_at hl 3 rfl) ?_
    refine lv_istore (lv' := [(5, .int (nI k)), (4, .int (nI (k + (7 ^ L)))), (0, .ref (ρ 0)), (1, .int (nI sl)), (2, .int (nI k)), (3, .int (nI L))]) hx hb dX1_patchLiesIn_20 hl (by decide) rfl (fun ls hl => ?_)
    have hp := pO_le (k := k) (L := L) (by omega) (by omega)
    rw [c_6] at hp
    have loop_22 : ∀ (n : Nat) (i : Nat), (i ≤ k + 7 ^ L) → (k ≤ i) → (allN (σ sl) k (i - k) = true) → k + 7 ^ L - i < n → ∀ (x5 : Int32), x5 = nI i → ∀ ls : Array Slot, lv_has ls 6 [(0, .ref (ρ 0)), (1, .int (nI sl)), (2, .int (nI k)), (3, .int (nI L)), (4, .int (nI (k + (7 ^ L)))), (5, .int x5)] → W p l e (headSpec wsX1_patchLiesIn ({ frames := 2, cells := 0, slots := 0, locals := 45 })).room s m [.ref (ρ 0), .int (nI sl), .int (nI k), .int (nI L)].toArray below meth c s.heap [] 0 0 (MQ below (vp_Si (fun r => r = bI (fitP (σ sl) k L))) [.ref (ρ 0), .int (nI sl), .int (nI k), .int (nI L)].toArray s 0 0 (fun _ => False)) (F0 m 22 ls []) := by
      intro n
      induction n with
      | zero => intro i hi hlo hall hm; exact absurd hm (Nat.not_lt_zero _)
      | succ n ih_22 =>
        intro i hi hlo hall hm_22 x5 e5 ls hl
        subst e5
        refine lv_iload hx hb dX1_patchLiesIn_22 (lv_at hl 5 rfl) ?_
        refine lv_iload hx hb dX1_patchLiesIn_24 (lv_at hl 4 rfl) ?_
        refine nv_icmp_ge (tgt := 47) hx hb dX1_patchLiesIn_26 (by decide) (by omega) (by omega) (fun c_26 => ?_) (fun c_26 => ?_)
        ·
          refine lv_iconst (v := nI 1) hx hb dX1_patchLiesIn_47 (by decide) ?_
          exact ret_z hx hb hr hlocks dX1_patchLiesIn_48 (by unfold fitP; rw [decide_eq_true c_6, ← show i - k = 7 ^ L by omega, hall]; rfl)
        ·
          refine lv_aload_n hx hb dX1_patchLiesIn_29 rfl (lv_at hl 0 rfl) ?_
          refine lv_iload_n hx hb dX1_patchLiesIn_30 rfl (lv_at hl 1 rfl) ?_
          refine lv_iload hx hb dX1_patchLiesIn_31 (lv_at hl 5 rfl) ?_
          refine rd_V S hl (c_X1_holds l D cI cZ ρ ts σ κ mk qu sl (some i) (by omega) (by exact fun j h => by first | exact nbo_lt h | (cases h; omega))) XB.hb gX1_patchLiesIn_X1_holds rfl rfl nf_X1_holds rfl rfl dX1_patchLiesIn_33 (XP.rc0 hXK hP) (XB.at hXK hS ⟨held, hRel, hP⟩) ?_
          refine nv_as (bI (σ sl i)) rfl ?_
          refine nv_ifz_ne (tgt := 41) hx hb dX1_patchLiesIn_36 (by decide) (fun c_36 => ?_) (fun c_36 => ?_)
          ·
            refine lv_iinc (v := nI (i + 1)) (lv' := [(5, .int (nI (i + 1))), (0, .ref (ρ 0)), (1, .int (nI sl)), (2, .int (nI k)), (3, .int (nI L)), (4, .int (nI (k + (7 ^ L))))]) hx hb dX1_patchLiesIn_41 hl (k := 5) rfl (inc_nI _) (by decide) rfl (fun ls hl => ?_)
            refine lv_goto (tgt := 22) hx hb dX1_patchLiesIn_44 (by decide) ?_
            exact ih_22 (i + 1) (by omega) (by omega) (by rw [show i + 1 - k = (i - k) + 1 by omega, allN, hall, show k + (i - k) = i by omega, c_36]; rfl) (by omega) _ (by first | rfl | exact congrArg nI (by omega)) _ (lv_sub hl [1, 2, 3, 4, 5, 0] rfl)
          ·
            refine lv_iconst (v := nI 0) hx hb dX1_patchLiesIn_39 (by decide) ?_
            exact ret_z hx hb hr hlocks dX1_patchLiesIn_40 (by unfold fitP; rw [allN_f (j := i - k) (by omega) (by rw [show k + (i - k) = i by omega]; exact c_36), Bool.and_false]; rfl)
    exact loop_22 (k + 7 ^ L - k + 1) k (by exact Nat.le_add_right _ _) (by exact Nat.le_refl _) (by rw [Nat.sub_self]; rfl) (Nat.lt_succ_self _) _ rfl _ (lv_sub hl [2, 3, 4, 5, 1, 0] rfl)
  ·
    refine lv_iconst (v := nI 0) hx hb dX1_patchLiesIn_9 (by decide) ?_
    exact ret_z hx hb hr hlocks dX1_patchLiesIn_10 (by unfold fitP; rw [decide_eq_false c_6]; rfl)
theorem nf_X1_packedLevel : nfOk yX1_packedLevel 2 := by unfold nfOk; decide +kernel
set_option maxHeartbeats 4000000 in
set_option maxRecDepth 100000 in
theorem c_X1_packedLevel (l : Launch) (D : va_G) (cI cZ : ClassId) (ρ : Nat → Nat) (ts : Nat) (σ : Nat → Nat → Bool) (κ : Int32) (mk : Nat → Int32) (qu : Nat → Int32) (sl : Nat) (k : Nat) (hsl : sl < 4) (hk : k < 2401) : Rd l yX1_packedLevel wsX1_packedLevel ({ frames := 3, cells := 0, slots := 0, locals := 70 }) [.ref (ρ 0), .int (nI sl), .int (nI k)] (XB D cI cZ ρ ts σ κ mk qu) (nI (lev (σ sl) k)) := by
  refine met_in RX1 (by decide) rfl rfl (Nat.le_of_ble_eq_true rfl) ?_
  intro p e s m below meth c ls S hr hlocks hl hB
  have hx := S.1
  have hb := S.2.1
  have hml := S.2.2.1
  have hown := S.2.2.2.1
  have hts := S.2.2.2.2
  have hl : lv_has ls 4 [(0, .ref (ρ 0)), (1, .int (nI sl)), (2, .int (nI k))] := hl
  obtain ⟨⟨held, hRel, hP⟩, hXK⟩ := hB
  have hK := hXK.1
  have hS : va_S (xA 7 ρ) s.heap s.heap [] := va_S.rf
  refine lv_iconst (v := nI 0) hx hb dX1_packedLevel_0 (by decide) ?_
  refine lv_istore_n (lv' := [(3, .int (nI 0)), (0, .ref (ρ 0)), (1, .int (nI sl)), (2, .int (nI k))]) hx hb dX1_packedLevel_1 rfl hl (by decide) rfl (fun ls hl => ?_)
  have loop_2 : ∀ (n : Nat) (L : Nat), (L ≤ 4) → (∀ j, j < L → fitP (σ sl) k (j + 1) = true) → 4 - L < n → ∀ (x3 : Int32), x3 = nI L → ∀ ls : Array Slot, lv_has ls 4 [(0, .ref (ρ 0)), (1, .int (nI sl)), (2, .int (nI k)), (3, .int x3)] → W p l e (headSpec wsX1_packedLevel ({ frames := 3, cells := 0, slots := 0, locals := 70 })).room s m [.ref (ρ 0), .int (nI sl), .int (nI k)].toArray below meth c s.heap [] 0 0 (MQ below (vp_Si (fun r => r = nI (lev (σ sl) k))) [.ref (ρ 0), .int (nI sl), .int (nI k)].toArray s 0 0 (fun _ => False)) (F0 m 2 ls []) := by
    intro n
    induction n with
    | zero => intro L hL hup hm; exact absurd hm (Nat.not_lt_zero _)
    | succ n ih_2 =>
      intro L hL hup hm_2 x3 e3 ls hl
      subst e3
      refine lv_iload_n hx hb dX1_packedLevel_2 rfl (lv_at hl 3 rfl) ?_
      refine lv_iconst (v := nI 4) hx hb dX1_packedLevel_3 (by decide) ?_
      refine nv_icmp_ge (tgt := 25) hx hb dX1_packedLevel_4 (by decide) (by omega) (by omega) (fun c_4 => ?_) (fun c_4 => ?_)
      ·
        refine lv_iload_n hx hb dX1_packedLevel_25 rfl (lv_at hl 3 rfl) ?_
        exact ret_i hx hb hr hlocks dX1_packedLevel_26 (by first | (rw [lev_is hL hup (fun _ => c_16)]; done) | (rw [lev_is hL hup (fun q => absurd q (by omega))]))
      ·
        refine lv_aload_n hx hb dX1_packedLevel_7 rfl (lv_at hl 0 rfl) ?_
        refine lv_iload_n hx hb dX1_packedLevel_8 rfl (lv_at hl 1 rfl) ?_
        refine lv_iload_n hx hb dX1_packedLevel_9 rfl (lv_at hl 2 rfl) ?_
        refine lv_iload_n hx hb dX1_packedLevel_10 rfl (lv_at hl 3 rfl) ?_
        refine lv_iconst (v := nI 1) hx hb dX1_packedLevel_11 (by decide) ?_
        refine lv_iadd hx hb dX1_packedLevel_12 ?_
        refine nv_as (nI (L + 1)) (nI_add _ _) ?_
        refine rd_V S hl (c_X1_patchLiesIn l D cI cZ ρ ts σ κ mk qu sl k (L + 1) (by omega) (by omega) (by omega)) XB.hb gX1_packedLevel_X1_patchLiesIn rfl rfl nf_X1_patchLiesIn rfl rfl dX1_packedLevel_13 (XP.rc0 hXK hP) (XB.at hXK hS ⟨held, hRel, hP⟩) ?_
        refine nv_ifz_eq (tgt := 25) hx hb dX1_packedLevel_16 (by decide) (fun c_16 => ?_) (fun c_16 => ?_)
        ·
          refine lv_iload_n hx hb dX1_packedLevel_25 rfl (lv_at hl 3 rfl) ?_
          exact ret_i hx hb hr hlocks dX1_packedLevel_26 (by first | (rw [lev_is hL hup (fun _ => c_16)]; done) | (rw [lev_is hL hup (fun q => absurd q (by omega))]))
        ·
          refine lv_iinc (v := nI (L + 1)) (lv' := [(3, .int (nI (L + 1))), (0, .ref (ρ 0)), (1, .int (nI sl)), (2, .int (nI k))]) hx hb dX1_packedLevel_19 hl (k := 3) rfl (inc_nI _) (by decide) rfl (fun ls hl => ?_)
          refine lv_goto (tgt := 2) hx hb dX1_packedLevel_22 (by decide) ?_
          exact ih_2 (L + 1) (by omega) (by exact lt_s hup c_16) (by omega) _ (by first | rfl | exact congrArg nI (by omega)) _ (lv_sub hl [1, 2, 3, 0] rfl)
  exact loop_2 (4 - 0 + 1) 0 (by omega) (by exact lt_0) (Nat.lt_succ_self _) _ rfl _ (lv_sub hl [1, 2, 3, 0] rfl)
theorem nf_X1_countPacked : nfOk yX1_countPacked 1 := by unfold nfOk; decide +kernel
set_option maxHeartbeats 4000000 in
set_option maxRecDepth 100000 in
theorem c_X1_countPacked (l : Launch) (D : va_G) (cI cZ : ClassId) (ρ : Nat → Nat) (ts : Nat) (σ : Nat → Nat → Bool) (κ : Int32) (mk : Nat → Int32) (qu : Nat → Int32) (sl : Nat) (hsl : sl < 4) : Rd l yX1_countPacked wsX1_countPacked ({ frames := 4, cells := 0, slots := 0, locals := 93 }) [.ref (ρ 0), .int (nI sl)] (XB D cI cZ ρ ts σ κ mk qu) (nI (pkC (σ sl))) := by
  refine met_in RX1 (by decide) rfl rfl (Nat.le_of_ble_eq_true rfl) ?_
  intro p e s m below meth c ls S hr hlocks hl hB
  have hx := S.1
  have hb := S.2.1
  have hml := S.2.2.1
  have hown := S.2.2.2.1
  have hts := S.2.2.2.2
  have hl : lv_has ls 5 [(0, .ref (ρ 0)), (1, .int (nI sl))] := hl
  obtain ⟨⟨held, hRel, hP⟩, hXK⟩ := hB
  have hK := hXK.1
  have hS : va_S (xA 7 ρ) s.heap s.heap [] := va_S.rf
  refine lv_iconst (v := nI 0) hx hb dX1_countPacked_0 (by decide) ?_
  refine lv_istore_n (lv' := [(2, .int (nI 0)), (0, .ref (ρ 0)), (1, .int (nI sl))]) hx hb dX1_countPacked_1 rfl hl (by decide) rfl (fun ls hl => ?_)
  refine lv_iconst (v := nI 0) hx hb dX1_countPacked_2 (by decide) ?_
  refine lv_istore_n (lv' := [(3, .int (nI 0)), (2, .int (nI 0)), (0, .ref (ρ 0)), (1, .int (nI sl))]) hx hb dX1_countPacked_3 rfl hl (by decide) rfl (fun ls hl => ?_)
  refine lv_iconst (v := nI 0) hx hb dX1_countPacked_4 (by decide) ?_
  refine lv_istore (lv' := [(4, .int (nI 0)), (3, .int (nI 0)), (2, .int (nI 0)), (0, .ref (ρ 0)), (1, .int (nI sl))]) hx hb dX1_countPacked_5 hl (by decide) rfl (fun ls hl => ?_)
  have loop_7 : ∀ (n : Nat) (i : Nat), (i ≤ 2401) → 2401 - i < n → ∀ (x2 x3 x4 : Int32), x2 = nI (fb_ct (isP (σ sl)) i) → x3 = nI (pkT (σ sl) i) → x4 = nI i → ∀ ls : Array Slot, lv_has ls 5 [(0, .ref (ρ 0)), (1, .int (nI sl)), (2, .int x2), (3, .int x3), (4, .int x4)] → W p l e (headSpec wsX1_countPacked ({ frames := 4, cells := 0, slots := 0, locals := 93 })).room s m [.ref (ρ 0), .int (nI sl)].toArray below meth c s.heap [] 0 0 (MQ below (vp_Si (fun r => r = nI (pkC (σ sl)))) [.ref (ρ 0), .int (nI sl)].toArray s 0 0 (fun _ => False)) (F0 m 7 ls []) := by
    intro n
    induction n with
    | zero => intro i hi hm; exact absurd hm (Nat.not_lt_zero _)
    | succ n ih_7 =>
      intro i hi hm_7 x2 x3 x4 e2 e3 e4 ls hl
      subst e2
      subst e3
      subst e4
      refine lv_iload hx hb dX1_countPacked_7 (lv_at hl 4 rfl) ?_
      refine lv_sipush (v := nI 2401) hx hb dX1_countPacked_9 (by decide) ?_
      refine nv_icmp_ge (tgt := 54) hx hb dX1_countPacked_12 (by decide) (by omega) (by omega) (fun c_12 => ?_) (fun c_12 => ?_)
      ·
        refine lv_iload_n hx hb dX1_countPacked_54 rfl (lv_at hl 2 rfl) ?_
        exact ret_i hx hb hr hlocks dX1_countPacked_55 (by rw [show i = 2401 by omega]; rfl)
      ·
        refine lv_iload hx hb dX1_countPacked_15 (lv_at hl 4 rfl) ?_
        refine lv_iload_n hx hb dX1_countPacked_17 rfl (lv_at hl 3 rfl) ?_
        have hT := pkT_le (σ sl) i
        refine nv_icmp_lt (tgt := 48) hx hb dX1_countPacked_18 (by decide) (by omega) (by omega) (fun c_18 => ?_) (fun c_18 => ?_)
        ·
          refine lv_iinc (v := nI (i + 1)) (lv' := [(4, .int (nI (i + 1))), (0, .ref (ρ 0)), (1, .int (nI sl)), (2, .int (nI (fb_ct (isP (σ sl)) i))), (3, .int (nI (pkT (σ sl) i)))]) hx hb dX1_countPacked_48 hl (k := 4) rfl (inc_nI _) (by decide) rfl (fun ls hl => ?_)
          refine lv_goto (tgt := 7) hx hb dX1_countPacked_51 (by decide) ?_
          exact ih_7 (i + 1) (by omega) (by omega) _ _ _ (by first | (rw [fb_ct_succ, (isP_t c_18 c_28).1]; rfl) | (rw [fb_ct_succ, (isP_f1 c_18).1]; rfl) | (rw [fb_ct_succ, (isP_f2 c_28).1]; rfl)) (by first | (rw [(isP_t c_18 c_28).2]; done) | (rw [(isP_f1 c_18).2]; done) | (rw [(isP_f2 c_28).2]; done)) (by first | rfl | exact congrArg nI (by omega)) _ (lv_sub hl [1, 2, 3, 4, 0] rfl)
        ·
          refine lv_aload_n hx hb dX1_countPacked_21 rfl (lv_at hl 0 rfl) ?_
          refine lv_iload_n hx hb dX1_countPacked_22 rfl (lv_at hl 1 rfl) ?_
          refine lv_iload hx hb dX1_countPacked_23 (lv_at hl 4 rfl) ?_
          refine rd_V S hl (c_X1_holds l D cI cZ ρ ts σ κ mk qu sl (some i) (by omega) (by exact fun j h => by first | exact nbo_lt h | (cases h; omega))) XB.hb gX1_countPacked_X1_holds rfl rfl nf_X1_holds rfl rfl dX1_countPacked_25 (XP.rc0 hXK hP) (XB.at hXK hS ⟨held, hRel, hP⟩) ?_
          refine nv_as (bI (σ sl i)) rfl ?_
          refine nv_ifz_eq (tgt := 48) hx hb dX1_countPacked_28 (by decide) (fun c_28 => ?_) (fun c_28 => ?_)
          ·
            refine lv_iinc (v := nI (i + 1)) (lv' := [(4, .int (nI (i + 1))), (0, .ref (ρ 0)), (1, .int (nI sl)), (2, .int (nI (fb_ct (isP (σ sl)) i))), (3, .int (nI (pkT (σ sl) i)))]) hx hb dX1_countPacked_48 hl (k := 4) rfl (inc_nI _) (by decide) rfl (fun ls hl => ?_)
            refine lv_goto (tgt := 7) hx hb dX1_countPacked_51 (by decide) ?_
            exact ih_7 (i + 1) (by omega) (by omega) _ _ _ (by first | (rw [fb_ct_succ, (isP_t c_18 c_28).1]; rfl) | (rw [fb_ct_succ, (isP_f1 c_18).1]; rfl) | (rw [fb_ct_succ, (isP_f2 c_28).1]; rfl)) (by first | (rw [(isP_t c_18 c_28).2]; done) | (rw [(isP_f1 c_18).2]; done) | (rw [(isP_f2 c_28).2]; done)) (by first | rfl | exact congrArg nI (by omega)) _ (lv_sub hl [1, 2, 3, 4, 0] rfl)
          ·
            refine lv_iload hx hb dX1_countPacked_31 (lv_at hl 4 rfl) ?_
            refine lv_aload_n hx hb dX1_countPacked_33 rfl (lv_at hl 0 rfl) ?_
            refine lv_iload_n hx hb dX1_countPacked_34 rfl (lv_at hl 1 rfl) ?_
            refine lv_iload hx hb dX1_countPacked_35 (lv_at hl 4 rfl) ?_
            refine rd_V S hl (c_X1_packedLevel l D cI cZ ρ ts σ κ mk qu sl i (by omega) (by omega)) XB.hb gX1_countPacked_X1_packedLevel rfl rfl nf_X1_packedLevel rfl rfl dX1_countPacked_37 (XP.rc0 hXK hP) (XB.at hXK hS ⟨held, hRel, hP⟩) ?_
            have hLv := lev_le (σ sl) i
            refine rd_S S hl (c_X1_patchSize l (lev (σ sl) i) (by omega)) HB.tt gX1_countPacked_X1_patchSize rfl nf_X1_patchSize rfl rfl dX1_countPacked_40  (fun _ _ _ => trivial) ?_
            refine lv_iadd hx hb dX1_countPacked_43 ?_
            refine nv_as (nI (i + (7 ^ (lev (σ sl) i)))) (nI_add _ _) ?_
            refine lv_istore_n (lv' := [(3, .int (nI (i + (7 ^ (lev (σ sl) i))))), (0, .ref (ρ 0)), (1, .int (nI sl)), (2, .int (nI (fb_ct (isP (σ sl)) i))), (4, .int (nI i))]) hx hb dX1_countPacked_44 rfl hl (by decide) rfl (fun ls hl => ?_)
            refine lv_iinc (v := nI (fb_ct (isP (σ sl)) i + 1)) (lv' := [(2, .int (nI (fb_ct (isP (σ sl)) i + 1))), (3, .int (nI (i + (7 ^ (lev (σ sl) i))))), (0, .ref (ρ 0)), (1, .int (nI sl)), (4, .int (nI i))]) hx hb dX1_countPacked_45 hl (k := 3) rfl (inc_nI _) (by decide) rfl (fun ls hl => ?_)
            refine lv_iinc (v := nI (i + 1)) (lv' := [(4, .int (nI (i + 1))), (2, .int (nI (fb_ct (isP (σ sl)) i + 1))), (3, .int (nI (i + (7 ^ (lev (σ sl) i))))), (0, .ref (ρ 0)), (1, .int (nI sl))]) hx hb dX1_countPacked_48 hl (k := 4) rfl (inc_nI _) (by decide) rfl (fun ls hl => ?_)
            refine lv_goto (tgt := 7) hx hb dX1_countPacked_51 (by decide) ?_
            exact ih_7 (i + 1) (by omega) (by omega) _ _ _ (by first | (rw [fb_ct_succ, (isP_t c_18 c_28).1]; rfl) | (rw [fb_ct_succ, (isP_f1 c_18).1]; rfl) | (rw [fb_ct_succ, (isP_f2 c_28).1]; rfl)) (by first | (rw [(isP_t c_18 c_28).2]; done) | (rw [(isP_f1 c_18).2]; done) | (rw [(isP_f2 c_28).2]; done)) (by first | rfl | exact congrArg nI (by omega)) _ (lv_sub hl [3, 4, 1, 2, 0] rfl)
  exact loop_7 (2401 - 0 + 1) 0 (by omega) (Nat.lt_succ_self _) _ _ _ (by first | rfl | exact congrArg nI (by omega)) (by first | rfl | exact congrArg nI (by omega)) rfl _ (lv_sub hl [3, 4, 2, 1, 0] rfl)
theorem nf_X1_countPackedOfAll : nfOk yX1_countPackedOfAll 0 := by unfold nfOk; decide +kernel
set_option maxHeartbeats 4000000 in
set_option maxRecDepth 100000 in
theorem c_X1_countPackedOfAll (l : Launch) (D : va_G) (cI cZ : ClassId) (ρ : Nat → Nat) (ts : Nat) (σ : Nat → Nat → Bool) (κ : Int32) (mk : Nat → Int32) (qu : Nat → Int32) : Rd l yX1_countPackedOfAll wsX1_countPackedOfAll ({ frames := 5, cells := 0, slots := 0, locals := 117 }) [.ref (ρ 0)] (XB D cI cZ ρ ts σ κ mk qu) (nI (pkA σ 4)) := by
  refine met_in RX1 (by decide) rfl rfl (Nat.le_of_ble_eq_true rfl) ?_
  intro p e s m below meth c ls S hr hlocks hl hB
  have hx := S.1
  have hb := S.2.1
  have hml := S.2.2.1
  have hown := S.2.2.2.1
  have hts := S.2.2.2.2
  have hl : lv_has ls 3 [(0, .ref (ρ 0))] := hl
  obtain ⟨⟨held, hRel, hP⟩, hXK⟩ := hB
  have hK := hXK.1
  have hS : va_S (xA 7 ρ) s.heap s.heap [] := va_S.rf
  refine lv_iconst (v := nI 0) hx hb dX1_countPackedOfAll_0 (by decide) ?_
  refine lv_istore_n (lv' := [(1, .int (nI 0)), (0, .ref (ρ 0))]) hx hb dX1_countPackedOfAll_1 rfl hl (by decide) rfl (fun ls hl => ?_)
  refine lv_iconst (v := nI 0) hx hb dX1_countPackedOfAll_2 (by decide) ?_
  refine lv_istore_n (lv' := [(2, .int (nI 0)), (1, .int (nI 0)), (0, .ref (ρ 0))]) hx hb dX1_countPackedOfAll_3 rfl hl (by decide) rfl (fun ls hl => ?_)
  have loop_4 : ∀ (n : Nat) (i : Nat), (i ≤ 4) → 4 - i < n → ∀ (x1 x2 : Int32), x1 = nI (pkA σ i) → x2 = nI i → ∀ ls : Array Slot, lv_has ls 3 [(0, .ref (ρ 0)), (1, .int x1), (2, .int x2)] → W p l e (headSpec wsX1_countPackedOfAll ({ frames := 5, cells := 0, slots := 0, locals := 117 })).room s m [.ref (ρ 0)].toArray below meth c s.heap [] 0 0 (MQ below (vp_Si (fun r => r = nI (pkA σ 4))) [.ref (ρ 0)].toArray s 0 0 (fun _ => False)) (F0 m 4 ls []) := by
    intro n
    induction n with
    | zero => intro i hi hm; exact absurd hm (Nat.not_lt_zero _)
    | succ n ih_4 =>
      intro i hi hm_4 x1 x2 e1 e2 ls hl
      subst e1
      subst e2
      refine lv_iload_n hx hb dX1_countPackedOfAll_4 rfl (lv_at hl 2 rfl) ?_
      refine lv_iconst (v := nI 4) hx hb dX1_countPackedOfAll_5 (by decide) ?_
      refine nv_icmp_ge (tgt := 23) hx hb dX1_countPackedOfAll_6 (by decide) (by omega) (by omega) (fun c_6 => ?_) (fun c_6 => ?_)
      ·
        refine lv_iload_n hx hb dX1_countPackedOfAll_23 rfl (lv_at hl 1 rfl) ?_
        exact ret_i hx hb hr hlocks dX1_countPackedOfAll_24 (by rw [show i = 4 by omega])
      ·
        refine lv_iload_n hx hb dX1_countPackedOfAll_9 rfl (lv_at hl 1 rfl) ?_
        refine lv_aload_n hx hb dX1_countPackedOfAll_10 rfl (lv_at hl 0 rfl) ?_
        refine lv_iload_n hx hb dX1_countPackedOfAll_11 rfl (lv_at hl 2 rfl) ?_
        refine rd_V S hl (c_X1_countPacked l D cI cZ ρ ts σ κ mk qu i (by omega)) XB.hb gX1_countPackedOfAll_X1_countPacked rfl rfl nf_X1_countPacked rfl rfl dX1_countPackedOfAll_12 (XP.rc0 hXK hP) (XB.at hXK hS ⟨held, hRel, hP⟩) ?_
        refine lv_iadd hx hb dX1_countPackedOfAll_15 ?_
        refine nv_as (nI (pkA σ i + (pkC (σ i)))) (nI_add _ _) ?_
        refine lv_istore_n (lv' := [(1, .int (nI (pkA σ i + (pkC (σ i))))), (0, .ref (ρ 0)), (2, .int (nI i))]) hx hb dX1_countPackedOfAll_16 rfl hl (by decide) rfl (fun ls hl => ?_)
        refine lv_iinc (v := nI (i + 1)) (lv' := [(2, .int (nI (i + 1))), (1, .int (nI (pkA σ i + (pkC (σ i))))), (0, .ref (ρ 0))]) hx hb dX1_countPackedOfAll_17 hl (k := 2) rfl (inc_nI _) (by decide) rfl (fun ls hl => ?_)
        refine lv_goto (tgt := 4) hx hb dX1_countPackedOfAll_20 (by decide) ?_
        exact ih_4 (i + 1) (by omega) (by omega) _ _ (by rfl) (by first | rfl | exact congrArg nI (by omega)) _ (lv_sub hl [2, 1, 0] rfl)
  exact loop_4 (4 - 0 + 1) 0 (by omega) (Nat.lt_succ_self _) _ _ (by first | rfl | exact congrArg nI (by omega)) rfl _ (lv_sub hl [2, 1, 0] rfl)
theorem nf_X1_packedKey : nfOk yX1_packedKey 2 := by unfold nfOk; decide +kernel
set_option maxHeartbeats 4000000 in
set_option maxRecDepth 100000 in
theorem c_X1_packedKey (l : Launch) (D : va_G) (cI cZ : ClassId) (ρ : Nat → Nat) (ts : Nat) (σ : Nat → Nat → Bool) (κ : Int32) (mk : Nat → Int32) (qu : Nat → Int32) (sl : Nat) (x : Int32) (hsl : sl < 4) : Rd l yX1_packedKey wsX1_packedKey ({ frames := 4, cells := 0, slots := 0, locals := 93 }) [.ref (ρ 0), .int (nI sl), .int x] (XB D cI cZ ρ ts σ κ mk qu) (oI (pkKey (σ sl) x)) := by
  refine met_in RX1 (by decide) rfl rfl (Nat.le_of_ble_eq_true rfl) ?_
  intro p e s m below meth c ls S hr hlocks hl hB
  have hx := S.1
  have hb := S.2.1
  have hml := S.2.2.1
  have hown := S.2.2.2.1
  have hts := S.2.2.2.2
  have hl : lv_has ls 6 [(0, .ref (ρ 0)), (1, .int (nI sl)), (2, .int x)] := hl
  obtain ⟨⟨held, hRel, hP⟩, hXK⟩ := hB
  have hK := hXK.1
  have hS : va_S (xA 7 ρ) s.heap s.heap [] := va_S.rf
  refine lv_iconst (v := nI 0) hx hb dX1_packedKey_0 (by decide) ?_
  refine lv_istore_n (lv' := [(3, .int (nI 0)), (0, .ref (ρ 0)), (1, .int (nI sl)), (2, .int x)]) hx hb dX1_packedKey_1 rfl hl (by decide) rfl (fun ls hl => ?_)
  refine lv_iconst (v := nI 0) hx hb dX1_packedKey_2 (by decide) ?_
  refine lv_istore (lv' := [(4, .int (nI 0)), (3, .int (nI 0)), (0, .ref (ρ 0)), (1, .int (nI sl)), (2, .int x)]) hx hb dX1_packedKey_3 hl (by decide) rfl (fun ls hl => ?_)
  refine lv_iconst (v := nI 0) hx hb dX1_packedKey_5 (by decide) ?_
  refine lv_istore (lv' := [(5, .int (nI 0)), (4, .int (nI 0)), (3, .int (nI 0)), (0, .ref (ρ 0)), (1, .int (nI sl)), (2, .int x)]) hx hb dX1_packedKey_6 hl (by decide) rfl (fun ls hl => ?_)
  have loop_8 : ∀ (n : Nat) (i : Nat), (i ≤ 2401) → (∀ j, j < i → pkQ (σ sl) x j = false) → 2401 - i < n → ∀ (x3 x4 x5 : Int32), x3 = nI (fb_ct (isP (σ sl)) i) → x4 = nI (pkT (σ sl) i) → x5 = nI i → ∀ ls : Array Slot, lv_has ls 6 [(0, .ref (ρ 0)), (1, .int (nI sl)), (2, .int x), (3, .int x3), (4, .int x4), (5, .int x5)] → W p l e (headSpec wsX1_packedKey ({ frames := 4, cells := 0, slots := 0, locals := 93 })).room s m [.ref (ρ 0), .int (nI sl), .int x].toArray below meth c s.heap [] 0 0 (MQ below (vp_Si (fun r => r = oI (pkKey (σ sl) x))) [.ref (ρ 0), .int (nI sl), .int x].toArray s 0 0 (fun _ => False)) (F0 m 8 ls []) := by
    intro n
    induction n with
    | zero => intro i hi hno hm; exact absurd hm (Nat.not_lt_zero _)
    | succ n ih_8 =>
      intro i hi hno hm_8 x3 x4 x5 e3 e4 e5 ls hl
      subst e3
      subst e4
      subst e5
      refine lv_iload hx hb dX1_packedKey_8 (lv_at hl 5 rfl) ?_
      refine lv_sipush (v := nI 2401) hx hb dX1_packedKey_10 (by decide) ?_
      refine nv_icmp_ge (tgt := 65) hx hb dX1_packedKey_13 (by decide) (by omega) (by omega) (fun c_13 => ?_) (fun c_13 => ?_)
      ·
        refine lv_bipush (v := (-6)) hx hb dX1_packedKey_65 (by decide) ?_
        exact ret_i hx hb hr hlocks dX1_packedKey_67 (by unfold pkKey; rw [lst_miss (fun e he => hno e (by omega))]; rfl)
      ·
        refine lv_iload hx hb dX1_packedKey_16 (lv_at hl 5 rfl) ?_
        refine lv_iload hx hb dX1_packedKey_18 (lv_at hl 4 rfl) ?_
        have hT := pkT_le (σ sl) i
        refine nv_icmp_lt (tgt := 59) hx hb dX1_packedKey_20 (by decide) (by omega) (by omega) (fun c_20 => ?_) (fun c_20 => ?_)
        ·
          refine lv_iinc (v := nI (i + 1)) (lv' := [(5, .int (nI (i + 1))), (0, .ref (ρ 0)), (1, .int (nI sl)), (2, .int x), (3, .int (nI (fb_ct (isP (σ sl)) i))), (4, .int (nI (pkT (σ sl) i)))]) hx hb dX1_packedKey_59 hl (k := 5) rfl (inc_nI _) (by decide) rfl (fun ls hl => ?_)
          refine lv_goto (tgt := 8) hx hb dX1_packedKey_62 (by decide) ?_
          exact ih_8 (i + 1) (by omega) (by first | exact lt_s hno (pkQ_f1 c_20) | exact lt_s hno (pkQ_f2 c_30) | exact lt_s hno (pkQ_f3 c_35)) (by omega) _ _ _ (by first | (rw [fb_ct_succ, (isP_t c_20 c_30).1]; rfl) | (rw [fb_ct_succ, (isP_f1 c_20).1]; rfl) | (rw [fb_ct_succ, (isP_f2 c_30).1]; rfl)) (by first | (rw [(isP_t c_20 c_30).2]; done) | (rw [(isP_f1 c_20).2]; done) | (rw [(isP_f2 c_30).2]; done)) (by first | rfl | exact congrArg nI (by omega)) _ (lv_sub hl [1, 2, 3, 4, 5, 0] rfl)
        ·
          refine lv_aload_n hx hb dX1_packedKey_23 rfl (lv_at hl 0 rfl) ?_
          refine lv_iload_n hx hb dX1_packedKey_24 rfl (lv_at hl 1 rfl) ?_
          refine lv_iload hx hb dX1_packedKey_25 (lv_at hl 5 rfl) ?_
          refine rd_V S hl (c_X1_holds l D cI cZ ρ ts σ κ mk qu sl (some i) (by omega) (by exact fun j h => by first | exact nbo_lt h | (cases h; omega))) XB.hb gX1_packedKey_X1_holds rfl rfl nf_X1_holds rfl rfl dX1_packedKey_27 (XP.rc0 hXK hP) (XB.at hXK hS ⟨held, hRel, hP⟩) ?_
          refine nv_as (bI (σ sl i)) rfl ?_
          refine nv_ifz_eq (tgt := 59) hx hb dX1_packedKey_30 (by decide) (fun c_30 => ?_) (fun c_30 => ?_)
          ·
            refine lv_iinc (v := nI (i + 1)) (lv' := [(5, .int (nI (i + 1))), (0, .ref (ρ 0)), (1, .int (nI sl)), (2, .int x), (3, .int (nI (fb_ct (isP (σ sl)) i))), (4, .int (nI (pkT (σ sl) i)))]) hx hb dX1_packedKey_59 hl (k := 5) rfl (inc_nI _) (by decide) rfl (fun ls hl => ?_)
            refine lv_goto (tgt := 8) hx hb dX1_packedKey_62 (by decide) ?_
            exact ih_8 (i + 1) (by omega) (by first | exact lt_s hno (pkQ_f1 c_20) | exact lt_s hno (pkQ_f2 c_30) | exact lt_s hno (pkQ_f3 c_35)) (by omega) _ _ _ (by first | (rw [fb_ct_succ, (isP_t c_20 c_30).1]; rfl) | (rw [fb_ct_succ, (isP_f1 c_20).1]; rfl) | (rw [fb_ct_succ, (isP_f2 c_30).1]; rfl)) (by first | (rw [(isP_t c_20 c_30).2]; done) | (rw [(isP_f1 c_20).2]; done) | (rw [(isP_f2 c_30).2]; done)) (by first | rfl | exact congrArg nI (by omega)) _ (lv_sub hl [1, 2, 3, 4, 5, 0] rfl)
          ·
            refine lv_iload_n hx hb dX1_packedKey_33 rfl (lv_at hl 3 rfl) ?_
            refine lv_iload_n hx hb dX1_packedKey_34 rfl (lv_at hl 2 rfl) ?_
            refine lv_icmp_ne (tgt := 41) hx hb dX1_packedKey_35 (by decide) (fun c_35 => ?_) (fun c_35 => ?_)
            ·
              refine lv_iload hx hb dX1_packedKey_41 (lv_at hl 5 rfl) ?_
              refine lv_aload_n hx hb dX1_packedKey_43 rfl (lv_at hl 0 rfl) ?_
              refine lv_iload_n hx hb dX1_packedKey_44 rfl (lv_at hl 1 rfl) ?_
              refine lv_iload hx hb dX1_packedKey_45 (lv_at hl 5 rfl) ?_
              refine rd_V S hl (c_X1_packedLevel l D cI cZ ρ ts σ κ mk qu sl i (by omega) (by omega)) XB.hb gX1_packedKey_X1_packedLevel rfl rfl nf_X1_packedLevel rfl rfl dX1_packedKey_47 (XP.rc0 hXK hP) (XB.at hXK hS ⟨held, hRel, hP⟩) ?_
              have hLv := lev_le (σ sl) i
              refine rd_S S hl (c_X1_patchSize l (lev (σ sl) i) (by omega)) HB.tt gX1_packedKey_X1_patchSize rfl nf_X1_patchSize rfl rfl dX1_packedKey_50  (fun _ _ _ => trivial) ?_
              refine lv_iadd hx hb dX1_packedKey_53 ?_
              refine nv_as (nI (i + (7 ^ (lev (σ sl) i)))) (nI_add _ _) ?_
              refine lv_istore (lv' := [(4, .int (nI (i + (7 ^ (lev (σ sl) i))))), (0, .ref (ρ 0)), (1, .int (nI sl)), (2, .int x), (3, .int (nI (fb_ct (isP (σ sl)) i))), (5, .int (nI i))]) hx hb dX1_packedKey_54 hl (by decide) rfl (fun ls hl => ?_)
              refine lv_iinc (v := nI (fb_ct (isP (σ sl)) i + 1)) (lv' := [(3, .int (nI (fb_ct (isP (σ sl)) i + 1))), (4, .int (nI (i + (7 ^ (lev (σ sl) i))))), (0, .ref (ρ 0)), (1, .int (nI sl)), (2, .int x), (5, .int (nI i))]) hx hb dX1_packedKey_56 hl (k := 4) rfl (inc_nI _) (by decide) rfl (fun ls hl => ?_)
              refine lv_iinc (v := nI (i + 1)) (lv' := [(5, .int (nI (i + 1))), (3, .int (nI (fb_ct (isP (σ sl)) i + 1))), (4, .int (nI (i + (7 ^ (lev (σ sl) i))))), (0, .ref (ρ 0)), (1, .int (nI sl)), (2, .int x)]) hx hb dX1_packedKey_59 hl (k := 5) rfl (inc_nI _) (by decide) rfl (fun ls hl => ?_)
              refine lv_goto (tgt := 8) hx hb dX1_packedKey_62 (by decide) ?_
              exact ih_8 (i + 1) (by omega) (by first | exact lt_s hno (pkQ_f1 c_20) | exact lt_s hno (pkQ_f2 c_30) | exact lt_s hno (pkQ_f3 c_35)) (by omega) _ _ _ (by first | (rw [fb_ct_succ, (isP_t c_20 c_30).1]; rfl) | (rw [fb_ct_succ, (isP_f1 c_20).1]; rfl) | (rw [fb_ct_succ, (isP_f2 c_30).1]; rfl)) (by first | (rw [(isP_t c_20 c_30).2]; done) | (rw [(isP_f1 c_20).2]; done) | (rw [(isP_f2 c_30).2]; done)) (by first | rfl | exact congrArg nI (by omega)) _ (lv_sub hl [3, 4, 5, 1, 2, 0] rfl)
            ·
              refine lv_iload hx hb dX1_packedKey_38 (lv_at hl 5 rfl) ?_
              have hq : pkQ (σ sl) x i = true := by simp [pkQ, (isP_t c_20 c_30).1, c_35]
              exact ret_i hx hb hr hlocks dX1_packedKey_40 (by unfold pkKey; rw [lst_hit (by omega) hq (fun e he hp => pkQ_one he (by omega) hp hq)]; rfl)
  exact loop_8 (2401 - 0 + 1) 0 (by omega) (by exact lt_0) (Nat.lt_succ_self _) _ _ _ (by first | rfl | exact congrArg nI (by omega)) (by first | rfl | exact congrArg nI (by omega)) rfl _ (lv_sub hl [3, 4, 5, 2, 1, 0] rfl)
theorem nf_X1_packed : nfOk yX1_packed 3 := by unfold nfOk; decide +kernel
set_option maxHeartbeats 4000000 in
set_option maxRecDepth 100000 in
theorem c_X1_packed (l : Launch) (D : va_G) (cI cZ : ClassId) (ρ : Nat → Nat) (ts : Nat) (σ : Nat → Nat → Bool) (κ : Int32) (mk : Nat → Int32) (qu : Nat → Int32) (a : Int32) (x : Int32) (y : Int32) : Rd l yX1_packed wsX1_packed ({ frames := 5, cells := 0, slots := 0, locals := 118 }) [.ref (ρ 0), .int a, .int x, .int y] (XB D cI cZ ρ ts σ κ mk qu) (packedR σ a x y) := by
  refine met_in RX1 (by decide) rfl rfl (Nat.le_of_ble_eq_true rfl) ?_
  intro p e s m below meth c ls S hr hlocks hl hB
  have hx := S.1
  have hb := S.2.1
  have hml := S.2.2.1
  have hown := S.2.2.2.1
  have hts := S.2.2.2.2
  have hl : lv_has ls 5 [(0, .ref (ρ 0)), (1, .int a), (2, .int x), (3, .int y)] := hl
  obtain ⟨⟨held, hRel, hP⟩, hXK⟩ := hB
  have hK := hXK.1
  have hS : va_S (xA 7 ρ) s.heap s.heap [] := va_S.rf
  refine lv_iload_n hx hb dX1_packed_0 rfl (lv_at hl 1 rfl) ?_
  refine rd_S S hl (c_X1_isSlot l a) HB.tt gX1_packed_X1_isSlot rfl nf_X1_isSlot rfl rfl dX1_packed_1  (fun _ _ _ => trivial) ?_
  refine nv_ifz_ne (tgt := 9) hx hb dX1_packed_4 (by decide) (fun c_4 => ?_) (fun c_4 => ?_)
  ·
    obtain ⟨sl, hsl, hxsl⟩ := wI_nat c_4 (by decide)
    subst hxsl
    have hcsl : (nI sl).toNatClampNeg = sl := nI_clamp (by omega)
    refine lv_iload_n hx hb dX1_packed_9 rfl (lv_at hl 3 rfl) ?_
    refine lv_iconst (v := nI 0) hx hb dX1_packed_10 (by decide) ?_
    refine lv_iconst (v := nI 1) hx hb dX1_packed_11 (by decide) ?_
    refine rd_S S hl (c_X1_within l y (nI 0) (nI 1)) HB.tt gX1_packed_X1_within rfl nf_X1_within rfl rfl dX1_packed_12  (fun _ _ _ => trivial) ?_
    refine nv_ifz_ne (tgt := 21) hx hb dX1_packed_15 (by decide) (fun c_15 => ?_) (fun c_15 => ?_)
    ·
      obtain ⟨w, hw, hxw⟩ := wI_nat c_15 (by decide)
      subst hxw
      have hcw : (nI w).toNatClampNeg = w := nI_clamp (by omega)
      refine lv_aload_n hx hb dX1_packed_21 rfl (lv_at hl 0 rfl) ?_
      refine lv_iload_n hx hb dX1_packed_22 rfl (lv_at hl 1 rfl) ?_
      refine lv_iload_n hx hb dX1_packed_23 rfl (lv_at hl 2 rfl) ?_
      refine rd_V S hl (c_X1_packedKey l D cI cZ ρ ts σ κ mk qu sl x (by omega)) XB.hb gX1_packed_X1_packedKey rfl rfl nf_X1_packedKey rfl rfl dX1_packed_24 (XP.rc0 hXK hP) (XB.at hXK hS ⟨held, hRel, hP⟩) ?_
      refine lv_istore (lv' := [(4, .int (oI (pkKey (σ sl) x))), (0, .ref (ρ 0)), (1, .int (nI sl)), (2, .int x), (3, .int (nI w))]) hx hb dX1_packed_27 hl (by decide) rfl (fun ls hl => ?_)
      rcases hpk : pkKey (σ sl) x with _ | k
      ·
        rw [hpk] at hl
        have hl : lv_has ls 5 [(4, .int (-6)), (0, .ref (ρ 0)), (1, .int (nI sl)), (2, .int x), (3, .int (nI w))] := hl
        refine lv_iload hx hb dX1_packed_29 (lv_at hl 0 rfl) ?_
        refine lv_bipush (v := (-6)) hx hb dX1_packed_31 (by decide) ?_
        refine lv_icmp_eq (tgt := 40) hx hb dX1_packed_33 (by decide) (fun c_33 => ?_) (fun c_33 => ?_)
        ·
          refine lv_iload hx hb dX1_packed_40 (lv_at hl 0 rfl) ?_
          exact ret_i hx hb hr hlocks dX1_packed_42 (by unfold packedR gs; rw [show isS (nI sl) = true from c_4, c_15, show cl (nI sl) = sl from hcsl, show cl (nI w) = w from hcw, hpk]; first | rfl | (simp [hw0]))
        ·
          exact absurd rfl c_33
      ·
        have hkl := pkKey_lt hpk
        rw [hpk] at hl
        have hl : lv_has ls 5 [(4, .int (nI k)), (0, .ref (ρ 0)), (1, .int (nI sl)), (2, .int x), (3, .int (nI w))] := hl
        refine lv_iload hx hb dX1_packed_29 (lv_at hl 0 rfl) ?_
        refine lv_bipush (v := (-6)) hx hb dX1_packed_31 (by decide) ?_
        refine lv_icmp_eq (tgt := 40) hx hb dX1_packed_33 (by decide) (fun c_33 => ?_) (fun c_33 => ?_)
        ·
          exact absurd c_33 (nI_ne6 (by omega))
        ·
          refine lv_iload_n hx hb dX1_packed_36 rfl (lv_at hl 4 rfl) ?_
          refine lv_if_ne (tgt := 43) hx hb dX1_packed_37 (by decide) (fun c_37 => ?_) (fun c_37 => ?_)
          ·
            have hw0 : w ≠ 0 := fun q => c_37 (by rw [q]; rfl)
            refine lv_aload_n hx hb dX1_packed_43 rfl (lv_at hl 1 rfl) ?_
            refine lv_iload_n hx hb dX1_packed_44 rfl (lv_at hl 2 rfl) ?_
            refine lv_iload hx hb dX1_packed_45 (lv_at hl 0 rfl) ?_
            refine rd_V S hl (c_X1_packedLevel l D cI cZ ρ ts σ κ mk qu sl k (by omega) (by omega)) XB.hb gX1_packed_X1_packedLevel rfl rfl nf_X1_packedLevel rfl rfl dX1_packed_47 (XP.rc0 hXK hP) (XB.at hXK hS ⟨held, hRel, hP⟩) ?_
            exact ret_i hx hb hr hlocks dX1_packed_50 (by unfold packedR gs; rw [show isS (nI sl) = true from c_4, c_15, show cl (nI sl) = sl from hcsl, show cl (nI w) = w from hcw, hpk]; simp [hw0])
          ·
            have hw0 : w = 0 := nz0 c_37 (by omega)
            refine lv_iload hx hb dX1_packed_40 (lv_at hl 0 rfl) ?_
            exact ret_i hx hb hr hlocks dX1_packed_42 (by unfold packedR gs; rw [show isS (nI sl) = true from c_4, c_15, show cl (nI sl) = sl from hcsl, show cl (nI w) = w from hcw, hpk]; first | rfl | (simp [hw0]))
    ·
      refine lv_bipush (v := (-2)) hx hb dX1_packed_18 (by decide) ?_
      exact ret_i hx hb hr hlocks dX1_packed_20 (by first | (simp [packedR, gd, gs, c_4, c_15]; done) | (simp [packedR, gd, gs, c_4]; done))
  ·
    refine lv_iconst (v := (-1)) hx hb dX1_packed_7 (by decide) ?_
    exact ret_i hx hb hr hlocks dX1_packed_8 (by first | (simp [packedR, gd, gs, c_4, c_15]; done) | (simp [packedR, gd, gs, c_4]; done))
theorem nf_X1_count : nfOk yX1_count 1 := by unfold nfOk; decide +kernel
set_option maxHeartbeats 4000000 in
set_option maxRecDepth 100000 in
theorem c_X1_count (l : Launch) (D : va_G) (cI cZ : ClassId) (ρ : Nat → Nat) (ts : Nat) (σ : Nat → Nat → Bool) (κ : Int32) (mk : Nat → Int32) (qu : Nat → Int32) (x : Int32) : Rd l yX1_count wsX1_count ({ frames := 6, cells := 0, slots := 0, locals := 139 }) [.ref (ρ 0), .int x] (XB D cI cZ ρ ts σ κ mk qu) (countR σ κ x) := by
  refine met_in RX1 (by decide) rfl rfl (Nat.le_of_ble_eq_true rfl) ?_
  intro p e s m below meth c ls S hr hlocks hl hB
  have hx := S.1
  have hb := S.2.1
  have hml := S.2.2.1
  have hown := S.2.2.2.1
  have hts := S.2.2.2.2
  have hl : lv_has ls 2 [(0, .ref (ρ 0)), (1, .int x)] := hl
  obtain ⟨⟨held, hRel, hP⟩, hXK⟩ := hB
  have hK := hXK.1
  have hS : va_S (xA 7 ρ) s.heap s.heap [] := va_S.rf
  refine lv_iload_n hx hb dX1_count_0 rfl (lv_at hl 1 rfl) ?_
  rcases sw_2 x with rfl | rfl | rfl | ho
  ·
    refine lv_tableIn (off := 27) (tgt := 28) hx hb dX1_count_1 (by decide) (by decide) (by decide) (by decide) ?_
    refine lv_aload_n hx hb dX1_count_28 rfl (lv_at hl 0 rfl) ?_
    refine rd_V S hl (c_X1_countHeldByAny l D cI cZ ρ ts σ κ mk qu) XB.hb gX1_count_X1_countHeldByAny rfl rfl nf_X1_countHeldByAny rfl rfl dX1_count_29 (XP.rc0 hXK hP) (XB.at hXK hS ⟨held, hRel, hP⟩) ?_
    exact ret_i hx hb hr hlocks dX1_count_32 (by unfold countR; rw [if_pos rfl])
  ·
    refine lv_tableIn (off := 32) (tgt := 33) hx hb dX1_count_1 (by decide) (by decide) (by decide) (by decide) ?_
    refine lv_aload_n hx hb dX1_count_33 rfl (lv_at hl 0 rfl) ?_
    refine rd_V S hl (c_X1_countPackedOfAll l D cI cZ ρ ts σ κ mk qu) XB.hb gX1_count_X1_countPackedOfAll rfl rfl nf_X1_countPackedOfAll rfl rfl dX1_count_34 (XP.rc0 hXK hP) (XB.at hXK hS ⟨held, hRel, hP⟩) ?_
    exact ret_i hx hb hr hlocks dX1_count_37 (by unfold countR; rw [if_neg (by decide), if_pos rfl])
  ·
    refine lv_tableIn (off := 37) (tgt := 38) hx hb dX1_count_1 (by decide) (by decide) (by decide) (by decide) ?_
    refine lv_aload_n hx hb dX1_count_38 rfl (lv_at hl 0 rfl) ?_
    refine va_get (D := D) (ci := 1) (v := .int κ) (C := RX1) (T := TX1) (N := 5) hx hb hts (by decide +kernel) hown hK hP 0 rfl rfl 2 (by decide) (hts (.fieldLink RX1 20 "SevenKeys" "keptImages" "I") (by decide +kernel)) (fun _ h9 => h9) rfl dX1_count_39 ?_
    exact ret_i hx hb hr hlocks dX1_count_42 (by unfold countR; rw [if_neg (by decide), if_neg (by decide), if_pos rfl])
  ·
    refine lv_tableOut (tgt := 43) hx hb dX1_count_1 ho (by decide) ?_
    refine lv_bipush (v := (-2)) hx hb dX1_count_43 (by decide) ?_
    exact ret_i hx hb hr hlocks dX1_count_45 (by unfold countR; rw [if_neg (sw_ne (by omega) ho (by omega) (by omega)), if_neg (sw_ne (by omega) ho (by omega) (by omega)), if_neg (sw_ne (by omega) ho (by omega) (by omega))])
end
section
theorem nf_X1_alike : nfOk yX1_alike 2 := by unfold nfOk; decide +kernel
set_option maxHeartbeats 4000000 in
set_option maxRecDepth 100000 in
theorem c_X1_alike (l : Launch) (D : va_G) (cI cZ : ClassId) (ρ : Nat → Nat) (ts : Nat) (σ : Nat → Nat → Bool) (κ : Int32) (mk : Nat → Int32) (qu : Nat → Int32) (a : Int32) (b : Int32) : Rd l yX1_alike wsX1_alike ({ frames := 2, cells := 0, slots := 0, locals := 42 }) [.ref (ρ 0), .int a, .int b] (XB D cI cZ ρ ts σ κ mk qu) (alikeR σ a b) := by
  refine met_in RX1 (by decide) rfl rfl (Nat.le_of_ble_eq_true rfl) ?_
  intro p e s m below meth c ls S hr hlocks hl hB
  have hx := S.1
  have hb := S.2.1
  have hml := S.2.2.1
  have hown := S.2.2.2.1
  have hts := S.2.2.2.2
  have hl : lv_has ls 9 [(0, .ref (ρ 0)), (1, .int a), (2, .int b)] := hl
  obtain ⟨⟨held, hRel, hP⟩, hXK⟩ := hB
  have hK := hXK.1
  have hS : va_S (xA 7 ρ) s.heap s.heap [] := va_S.rf
  refine lv_iload_n hx hb dX1_alike_0 rfl (lv_at hl 1 rfl) ?_
  refine rd_S S hl (c_X1_isSlot l a) HB.tt gX1_alike_X1_isSlot rfl nf_X1_isSlot rfl rfl dX1_alike_1  (fun _ _ _ => trivial) ?_
  refine nv_ifz_eq (tgt := 14) hx hb dX1_alike_4 (by decide) (fun c_4 => ?_) (fun c_4 => ?_)
  ·
    refine lv_iconst (v := (-1)) hx hb dX1_alike_14 (by decide) ?_
    exact ret_i hx hb hr hlocks dX1_alike_15 (by first | (simp [alikeR, gd, gs, c_4, c_11]; done) | (simp [alikeR, gd, gs, c_4]; done))
  ·
    obtain ⟨sa, hsa, hxsa⟩ := wI_nat c_4 (by decide)
    subst hxsa
    have hcsa : (nI sa).toNatClampNeg = sa := nI_clamp (by omega)
    refine lv_iload_n hx hb dX1_alike_7 rfl (lv_at hl 2 rfl) ?_
    refine rd_S S hl (c_X1_isSlot l b) HB.tt gX1_alike_X1_isSlot rfl nf_X1_isSlot rfl rfl dX1_alike_8  (fun _ _ _ => trivial) ?_
    refine nv_ifz_ne (tgt := 16) hx hb dX1_alike_11 (by decide) (fun c_11 => ?_) (fun c_11 => ?_)
    ·
      obtain ⟨sb, hsb, hxsb⟩ := wI_nat c_11 (by decide)
      subst hxsb
      have hcsb : (nI sb).toNatClampNeg = sb := nI_clamp (by omega)
      refine lv_iconst (v := nI 0) hx hb dX1_alike_16 (by decide) ?_
      refine lv_istore_n (lv' := [(3, .int (nI 0)), (0, .ref (ρ 0)), (1, .int (nI sa)), (2, .int (nI sb))]) hx hb dX1_alike_17 rfl hl (by decide) rfl (fun ls hl => ?_)
      refine lv_iconst (v := nI 0) hx hb dX1_alike_18 (by decide) ?_
      refine lv_istore (lv' := [(4, .int (nI 0)), (3, .int (nI 0)), (0, .ref (ρ 0)), (1, .int (nI sa)), (2, .int (nI sb))]) hx hb dX1_alike_19 hl (by decide) rfl (fun ls hl => ?_)
      refine lv_iconst (v := nI 0) hx hb dX1_alike_21 (by decide) ?_
      refine lv_istore (lv' := [(5, .int (nI 0)), (4, .int (nI 0)), (3, .int (nI 0)), (0, .ref (ρ 0)), (1, .int (nI sa)), (2, .int (nI sb))]) hx hb dX1_alike_22 hl (by decide) rfl (fun ls hl => ?_)
      refine lv_iconst (v := nI 0) hx hb dX1_alike_24 (by decide) ?_
      refine lv_istore (lv' := [(6, .int (nI 0)), (5, .int (nI 0)), (4, .int (nI 0)), (3, .int (nI 0)), (0, .ref (ρ 0)), (1, .int (nI sa)), (2, .int (nI sb))]) hx hb dX1_alike_25 hl (by decide) rfl (fun ls hl => ?_)
      have loop_27 : ∀ (n : Nat) (i : Nat), (i ≤ 2401) → 2401 - i < n → ∀ (x3 x4 x5 x6 : Int32), x3 = bI (orN (fun j => σ sa j && !σ sb j) i) → x4 = bI (orN (fun j => σ sb j && !σ sa j) i) → x5 = bI (orN (fun j => σ sa j && σ sb j) i) → x6 = nI i → ∀ ls : Array Slot, lv_has ls 9 [(0, .ref (ρ 0)), (1, .int (nI sa)), (2, .int (nI sb)), (3, .int x3), (4, .int x4), (5, .int x5), (6, .int x6)] → W p l e (headSpec wsX1_alike ({ frames := 2, cells := 0, slots := 0, locals := 42 })).room s m [.ref (ρ 0), .int (nI sa), .int (nI sb)].toArray below meth c s.heap [] 0 0 (MQ below (vp_Si (fun r => r = alikeR σ (nI sa) (nI sb))) [.ref (ρ 0), .int (nI sa), .int (nI sb)].toArray s 0 0 (fun _ => False)) (F0 m 27 ls []) := by
        intro n
        induction n with
        | zero => intro i hi hm; exact absurd hm (Nat.not_lt_zero _)
        | succ n ih_27 =>
          intro i hi hm_27 x3 x4 x5 x6 e3 e4 e5 e6 ls hl
          subst e3
          subst e4
          subst e5
          subst e6
          refine lv_iload hx hb dX1_alike_27 (lv_at hl 6 rfl) ?_
          refine lv_sipush (v := nI 2401) hx hb dX1_alike_29 (by decide) ?_
          refine nv_icmp_ge (tgt := 123) hx hb dX1_alike_32 (by decide) (by omega) (by omega) (fun c_32 => ?_) (fun c_32 => ?_)
          ·
            refine lv_iload_n hx hb dX1_alike_123 rfl (lv_at hl 3 rfl) ?_
            refine nv_ifz_ne (tgt := 138) hx hb dX1_alike_124 (by decide) (fun c_124 => ?_) (fun c_124 => ?_)
            ·
              refine lv_iload hx hb dX1_alike_138 (lv_at hl 4 rfl) ?_
              refine nv_ifz_ne (tgt := 145) hx hb dX1_alike_140 (by decide) (fun c_140 => ?_) (fun c_140 => ?_)
              ·
                refine lv_iload hx hb dX1_alike_145 (lv_at hl 5 rfl) ?_
                refine nv_ifz_eq (tgt := 154) hx hb dX1_alike_147 (by decide) (fun c_147 => ?_) (fun c_147 => ?_)
                ·
                  refine lv_iconst (v := nI 3) hx hb dX1_alike_154 (by decide) ?_
                  exact ret_i hx hb hr hlocks dX1_alike_155 (by unfold alikeR; rw [show cl (nI sa) = sa from hcsa, show cl (nI sb) = sb from hcsb, ← show i = 2401 by omega]; simp [gs, alikeF, c_4, c_11, c_4, c_11, c_124, c_140, c_147])
                ·
                  refine lv_iconst (v := nI 4) hx hb dX1_alike_150 (by decide) ?_
                  refine lv_goto (tgt := 155) hx hb dX1_alike_151 (by decide) ?_
                  exact ret_i hx hb hr hlocks dX1_alike_155 (by unfold alikeR; rw [show cl (nI sa) = sa from hcsa, show cl (nI sb) = sb from hcsb, ← show i = 2401 by omega]; simp [gs, alikeF, c_4, c_11, c_4, c_11, c_124, c_140, c_147])
              ·
                refine lv_iconst (v := nI 2) hx hb dX1_alike_143 (by decide) ?_
                exact ret_i hx hb hr hlocks dX1_alike_144 (by unfold alikeR; rw [show cl (nI sa) = sa from hcsa, show cl (nI sb) = sb from hcsb, ← show i = 2401 by omega]; simp [gs, alikeF, c_4, c_11, c_4, c_11, c_124, c_140])
            ·
              refine lv_iload hx hb dX1_alike_127 (lv_at hl 4 rfl) ?_
              refine nv_ifz_eq (tgt := 136) hx hb dX1_alike_129 (by decide) (fun c_129 => ?_) (fun c_129 => ?_)
              ·
                refine lv_iconst (v := nI 0) hx hb dX1_alike_136 (by decide) ?_
                exact ret_i hx hb hr hlocks dX1_alike_137 (by unfold alikeR; rw [show cl (nI sa) = sa from hcsa, show cl (nI sb) = sb from hcsb, ← show i = 2401 by omega]; simp [gs, alikeF, c_4, c_11, c_4, c_11, c_124, c_129])
              ·
                refine lv_iconst (v := nI 1) hx hb dX1_alike_132 (by decide) ?_
                refine lv_goto (tgt := 137) hx hb dX1_alike_133 (by decide) ?_
                exact ret_i hx hb hr hlocks dX1_alike_137 (by unfold alikeR; rw [show cl (nI sa) = sa from hcsa, show cl (nI sb) = sb from hcsb, ← show i = 2401 by omega]; simp [gs, alikeF, c_4, c_11, c_4, c_11, c_124, c_129])
          ·
            refine lv_aload_n hx hb dX1_alike_35 rfl (lv_at hl 0 rfl) ?_
            refine lv_iload_n hx hb dX1_alike_36 rfl (lv_at hl 1 rfl) ?_
            refine lv_iload hx hb dX1_alike_37 (lv_at hl 6 rfl) ?_
            refine rd_V S hl (c_X1_holds l D cI cZ ρ ts σ κ mk qu sa (some i) (by omega) (by exact fun j h => by first | exact nbo_lt h | (cases h; omega))) XB.hb gX1_alike_X1_holds rfl rfl nf_X1_holds rfl rfl dX1_alike_39 (XP.rc0 hXK hP) (XB.at hXK hS ⟨held, hRel, hP⟩) ?_
            refine nv_as (bI (σ sa i)) rfl ?_
            refine lv_istore (lv' := [(7, .int (bI (σ sa i))), (0, .ref (ρ 0)), (1, .int (nI sa)), (2, .int (nI sb)), (3, .int (bI (orN (fun j => σ sa j && !σ sb j) i))), (4, .int (bI (orN (fun j => σ sb j && !σ sa j) i))), (5, .int (bI (orN (fun j => σ sa j && σ sb j) i))), (6, .int (nI i))]) hx hb dX1_alike_42 hl (by decide) rfl (fun ls hl => ?_)
            refine lv_aload_n hx hb dX1_alike_44 rfl (lv_at hl 1 rfl) ?_
            refine lv_iload_n hx hb dX1_alike_45 rfl (lv_at hl 3 rfl) ?_
            refine lv_iload hx hb dX1_alike_46 (lv_at hl 7 rfl) ?_
            refine rd_V S hl (c_X1_holds l D cI cZ ρ ts σ κ mk qu sb (some i) (by omega) (by exact fun j h => by first | exact nbo_lt h | (cases h; omega))) XB.hb gX1_alike_X1_holds rfl rfl nf_X1_holds rfl rfl dX1_alike_48 (XP.rc0 hXK hP) (XB.at hXK hS ⟨held, hRel, hP⟩) ?_
            refine nv_as (bI (σ sb i)) rfl ?_
            refine lv_istore (lv' := [(8, .int (bI (σ sb i))), (7, .int (bI (σ sa i))), (0, .ref (ρ 0)), (1, .int (nI sa)), (2, .int (nI sb)), (3, .int (bI (orN (fun j => σ sa j && !σ sb j) i))), (4, .int (bI (orN (fun j => σ sb j && !σ sa j) i))), (5, .int (bI (orN (fun j => σ sa j && σ sb j) i))), (6, .int (nI i))]) hx hb dX1_alike_51 hl (by decide) rfl (fun ls hl => ?_)
            refine lv_iload_n hx hb dX1_alike_53 rfl (lv_at hl 5 rfl) ?_
            refine nv_ifz_ne (tgt := 67) hx hb dX1_alike_54 (by decide) (fun c_54 => ?_) (fun c_54 => ?_)
            ·
              refine lv_iconst (v := nI 1) hx hb dX1_alike_67 (by decide) ?_
              refine lv_goto (tgt := 72) hx hb dX1_alike_68 (by decide) ?_
              refine lv_istore_n (lv' := [(3, .int (nI 1)), (8, .int (bI (σ sb i))), (7, .int (bI (σ sa i))), (0, .ref (ρ 0)), (1, .int (nI sa)), (2, .int (nI sb)), (4, .int (bI (orN (fun j => σ sb j && !σ sa j) i))), (5, .int (bI (orN (fun j => σ sa j && σ sb j) i))), (6, .int (nI i))]) hx hb dX1_alike_72 rfl hl (by decide) rfl (fun ls hl => ?_)
              refine lv_iload hx hb dX1_alike_73 (lv_at hl 6 rfl) ?_
              refine nv_ifz_ne (tgt := 88) hx hb dX1_alike_75 (by decide) (fun c_75 => ?_) (fun c_75 => ?_)
              ·
                refine lv_iconst (v := nI 1) hx hb dX1_alike_88 (by decide) ?_
                refine lv_goto (tgt := 93) hx hb dX1_alike_89 (by decide) ?_
                refine lv_istore (lv' := [(4, .int (nI 1)), (3, .int (nI 1)), (8, .int (bI (σ sb i))), (7, .int (bI (σ sa i))), (0, .ref (ρ 0)), (1, .int (nI sa)), (2, .int (nI sb)), (5, .int (bI (orN (fun j => σ sa j && σ sb j) i))), (6, .int (nI i))]) hx hb dX1_alike_93 hl (by decide) rfl (fun ls hl => ?_)
                refine lv_iload hx hb dX1_alike_95 (lv_at hl 7 rfl) ?_
                refine nv_ifz_ne (tgt := 110) hx hb dX1_alike_97 (by decide) (fun c_97 => ?_) (fun c_97 => ?_)
                ·
                  refine lv_iconst (v := nI 1) hx hb dX1_alike_110 (by decide) ?_
                  refine lv_goto (tgt := 115) hx hb dX1_alike_111 (by decide) ?_
                  refine lv_istore (lv' := [(5, .int (nI 1)), (4, .int (nI 1)), (3, .int (nI 1)), (8, .int (bI (σ sb i))), (7, .int (bI (σ sa i))), (0, .ref (ρ 0)), (1, .int (nI sa)), (2, .int (nI sb)), (6, .int (nI i))]) hx hb dX1_alike_115 hl (by decide) rfl (fun ls hl => ?_)
                  refine lv_iinc (v := nI (i + 1)) (lv' := [(6, .int (nI (i + 1))), (5, .int (nI 1)), (4, .int (nI 1)), (3, .int (nI 1)), (8, .int (bI (σ sb i))), (7, .int (bI (σ sa i))), (0, .ref (ρ 0)), (1, .int (nI sa)), (2, .int (nI sb))]) hx hb dX1_alike_117 hl (k := 8) rfl (inc_nI _) (by decide) rfl (fun ls hl => ?_)
                  refine lv_goto (tgt := 27) hx hb dX1_alike_120 (by decide) ?_
                  exact ih_27 (i + 1) (by omega) (by omega) _ _ _ _ (congrArg bI (show true = orN (fun j => σ sa j && !σ sb j) (i + 1) by simp [orN, c_4, c_11, c_54, c_75, c_97])) (congrArg bI (show true = orN (fun j => σ sb j && !σ sa j) (i + 1) by simp [orN, c_4, c_11, c_54, c_75, c_97])) (congrArg bI (show true = orN (fun j => σ sa j && σ sb j) (i + 1) by simp [orN, c_4, c_11, c_54, c_75, c_97])) (by first | rfl | exact congrArg nI (by omega)) _ (lv_sub hl [6, 7, 8, 3, 2, 1, 0] rfl)
                ·
                  refine lv_iload hx hb dX1_alike_100 (lv_at hl 3 rfl) ?_
                  refine nv_ifz_eq (tgt := 114) hx hb dX1_alike_102 (by decide) (fun c_102 => ?_) (fun c_102 => ?_)
                  ·
                    refine lv_iconst (v := nI 0) hx hb dX1_alike_114 (by decide) ?_
                    refine lv_istore (lv' := [(5, .int (nI 0)), (4, .int (nI 1)), (3, .int (nI 1)), (8, .int (bI (σ sb i))), (7, .int (bI (σ sa i))), (0, .ref (ρ 0)), (1, .int (nI sa)), (2, .int (nI sb)), (6, .int (nI i))]) hx hb dX1_alike_115 hl (by decide) rfl (fun ls hl => ?_)
                    refine lv_iinc (v := nI (i + 1)) (lv' := [(6, .int (nI (i + 1))), (5, .int (nI 0)), (4, .int (nI 1)), (3, .int (nI 1)), (8, .int (bI (σ sb i))), (7, .int (bI (σ sa i))), (0, .ref (ρ 0)), (1, .int (nI sa)), (2, .int (nI sb))]) hx hb dX1_alike_117 hl (k := 8) rfl (inc_nI _) (by decide) rfl (fun ls hl => ?_)
                    refine lv_goto (tgt := 27) hx hb dX1_alike_120 (by decide) ?_
                    exact ih_27 (i + 1) (by omega) (by omega) _ _ _ _ (congrArg bI (show true = orN (fun j => σ sa j && !σ sb j) (i + 1) by simp [orN, c_4, c_11, c_54, c_75, c_97, c_102])) (congrArg bI (show true = orN (fun j => σ sb j && !σ sa j) (i + 1) by simp [orN, c_4, c_11, c_54, c_75, c_97, c_102])) (congrArg bI (show false = orN (fun j => σ sa j && σ sb j) (i + 1) by simp [orN, c_4, c_11, c_54, c_75, c_97, c_102])) (by first | rfl | exact congrArg nI (by omega)) _ (lv_sub hl [6, 7, 8, 3, 2, 1, 0] rfl)
                  ·
                    refine lv_iload hx hb dX1_alike_105 (lv_at hl 2 rfl) ?_
                    refine nv_ifz_eq (tgt := 114) hx hb dX1_alike_107 (by decide) (fun c_107 => ?_) (fun c_107 => ?_)
                    ·
                      refine lv_iconst (v := nI 0) hx hb dX1_alike_114 (by decide) ?_
                      refine lv_istore (lv' := [(5, .int (nI 0)), (4, .int (nI 1)), (3, .int (nI 1)), (8, .int (bI (σ sb i))), (7, .int (bI (σ sa i))), (0, .ref (ρ 0)), (1, .int (nI sa)), (2, .int (nI sb)), (6, .int (nI i))]) hx hb dX1_alike_115 hl (by decide) rfl (fun ls hl => ?_)
                      refine lv_iinc (v := nI (i + 1)) (lv' := [(6, .int (nI (i + 1))), (5, .int (nI 0)), (4, .int (nI 1)), (3, .int (nI 1)), (8, .int (bI (σ sb i))), (7, .int (bI (σ sa i))), (0, .ref (ρ 0)), (1, .int (nI sa)), (2, .int (nI sb))]) hx hb dX1_alike_117 hl (k := 8) rfl (inc_nI _) (by decide) rfl (fun ls hl => ?_)
                      refine lv_goto (tgt := 27) hx hb dX1_alike_120 (by decide) ?_
                      exact ih_27 (i + 1) (by omega) (by omega) _ _ _ _ (congrArg bI (show true = orN (fun j => σ sa j && !σ sb j) (i + 1) by simp [orN, c_4, c_11, c_54, c_75, c_97, c_102, c_107])) (congrArg bI (show true = orN (fun j => σ sb j && !σ sa j) (i + 1) by simp [orN, c_4, c_11, c_54, c_75, c_97, c_102, c_107])) (congrArg bI (show false = orN (fun j => σ sa j && σ sb j) (i + 1) by simp [orN, c_4, c_11, c_54, c_75, c_97, c_102, c_107])) (by first | rfl | exact congrArg nI (by omega)) _ (lv_sub hl [6, 7, 8, 3, 2, 1, 0] rfl)
                    ·
                      refine lv_iconst (v := nI 1) hx hb dX1_alike_110 (by decide) ?_
                      refine lv_goto (tgt := 115) hx hb dX1_alike_111 (by decide) ?_
                      refine lv_istore (lv' := [(5, .int (nI 1)), (4, .int (nI 1)), (3, .int (nI 1)), (8, .int (bI (σ sb i))), (7, .int (bI (σ sa i))), (0, .ref (ρ 0)), (1, .int (nI sa)), (2, .int (nI sb)), (6, .int (nI i))]) hx hb dX1_alike_115 hl (by decide) rfl (fun ls hl => ?_)
                      refine lv_iinc (v := nI (i + 1)) (lv' := [(6, .int (nI (i + 1))), (5, .int (nI 1)), (4, .int (nI 1)), (3, .int (nI 1)), (8, .int (bI (σ sb i))), (7, .int (bI (σ sa i))), (0, .ref (ρ 0)), (1, .int (nI sa)), (2, .int (nI sb))]) hx hb dX1_alike_117 hl (k := 8) rfl (inc_nI _) (by decide) rfl (fun ls hl => ?_)
                      refine lv_goto (tgt := 27) hx hb dX1_alike_120 (by decide) ?_
                      exact ih_27 (i + 1) (by omega) (by omega) _ _ _ _ (congrArg bI (show true = orN (fun j => σ sa j && !σ sb j) (i + 1) by simp [orN, c_4, c_11, c_54, c_75, c_97, c_102, c_107])) (congrArg bI (show true = orN (fun j => σ sb j && !σ sa j) (i + 1) by simp [orN, c_4, c_11, c_54, c_75, c_97, c_102, c_107])) (congrArg bI (show true = orN (fun j => σ sa j && σ sb j) (i + 1) by simp [orN, c_4, c_11, c_54, c_75, c_97, c_102, c_107])) (by first | rfl | exact congrArg nI (by omega)) _ (lv_sub hl [6, 7, 8, 3, 2, 1, 0] rfl)
              ·
                refine lv_iload hx hb dX1_alike_78 (lv_at hl 1 rfl) ?_
                refine nv_ifz_eq (tgt := 92) hx hb dX1_alike_80 (by decide) (fun c_80 => ?_) (fun c_80 => ?_)
                ·
                  refine lv_iconst (v := nI 0) hx hb dX1_alike_92 (by decide) ?_
                  refine lv_istore (lv' := [(4, .int (nI 0)), (3, .int (nI 1)), (8, .int (bI (σ sb i))), (7, .int (bI (σ sa i))), (0, .ref (ρ 0)), (1, .int (nI sa)), (2, .int (nI sb)), (5, .int (bI (orN (fun j => σ sa j && σ sb j) i))), (6, .int (nI i))]) hx hb dX1_alike_93 hl (by decide) rfl (fun ls hl => ?_)
                  refine lv_iload hx hb dX1_alike_95 (lv_at hl 7 rfl) ?_
                  refine nv_ifz_ne (tgt := 110) hx hb dX1_alike_97 (by decide) (fun c_97 => ?_) (fun c_97 => ?_)
                  ·
                    refine lv_iconst (v := nI 1) hx hb dX1_alike_110 (by decide) ?_
                    refine lv_goto (tgt := 115) hx hb dX1_alike_111 (by decide) ?_
                    refine lv_istore (lv' := [(5, .int (nI 1)), (4, .int (nI 0)), (3, .int (nI 1)), (8, .int (bI (σ sb i))), (7, .int (bI (σ sa i))), (0, .ref (ρ 0)), (1, .int (nI sa)), (2, .int (nI sb)), (6, .int (nI i))]) hx hb dX1_alike_115 hl (by decide) rfl (fun ls hl => ?_)
                    refine lv_iinc (v := nI (i + 1)) (lv' := [(6, .int (nI (i + 1))), (5, .int (nI 1)), (4, .int (nI 0)), (3, .int (nI 1)), (8, .int (bI (σ sb i))), (7, .int (bI (σ sa i))), (0, .ref (ρ 0)), (1, .int (nI sa)), (2, .int (nI sb))]) hx hb dX1_alike_117 hl (k := 8) rfl (inc_nI _) (by decide) rfl (fun ls hl => ?_)
                    refine lv_goto (tgt := 27) hx hb dX1_alike_120 (by decide) ?_
                    exact ih_27 (i + 1) (by omega) (by omega) _ _ _ _ (congrArg bI (show true = orN (fun j => σ sa j && !σ sb j) (i + 1) by simp [orN, c_4, c_11, c_54, c_75, c_80, c_97])) (congrArg bI (show false = orN (fun j => σ sb j && !σ sa j) (i + 1) by simp [orN, c_4, c_11, c_54, c_75, c_80, c_97])) (congrArg bI (show true = orN (fun j => σ sa j && σ sb j) (i + 1) by simp [orN, c_4, c_11, c_54, c_75, c_80, c_97])) (by first | rfl | exact congrArg nI (by omega)) _ (lv_sub hl [6, 7, 8, 3, 2, 1, 0] rfl)
                  ·
                    refine lv_iload hx hb dX1_alike_100 (lv_at hl 3 rfl) ?_
                    refine nv_ifz_eq (tgt := 114) hx hb dX1_alike_102 (by decide) (fun c_102 => ?_) (fun c_102 => ?_)
                    ·
                      refine lv_iconst (v := nI 0) hx hb dX1_alike_114 (by decide) ?_
                      refine lv_istore (lv' := [(5, .int (nI 0)), (4, .int (nI 0)), (3, .int (nI 1)), (8, .int (bI (σ sb i))), (7, .int (bI (σ sa i))), (0, .ref (ρ 0)), (1, .int (nI sa)), (2, .int (nI sb)), (6, .int (nI i))]) hx hb dX1_alike_115 hl (by decide) rfl (fun ls hl => ?_)
                      refine lv_iinc (v := nI (i + 1)) (lv' := [(6, .int (nI (i + 1))), (5, .int (nI 0)), (4, .int (nI 0)), (3, .int (nI 1)), (8, .int (bI (σ sb i))), (7, .int (bI (σ sa i))), (0, .ref (ρ 0)), (1, .int (nI sa)), (2, .int (nI sb))]) hx hb dX1_alike_117 hl (k := 8) rfl (inc_nI _) (by decide) rfl (fun ls hl => ?_)
                      refine lv_goto (tgt := 27) hx hb dX1_alike_120 (by decide) ?_
                      exact ih_27 (i + 1) (by omega) (by omega) _ _ _ _ (congrArg bI (show true = orN (fun j => σ sa j && !σ sb j) (i + 1) by simp [orN, c_4, c_11, c_54, c_75, c_80, c_97, c_102])) (congrArg bI (show false = orN (fun j => σ sb j && !σ sa j) (i + 1) by simp [orN, c_4, c_11, c_54, c_75, c_80, c_97, c_102])) (congrArg bI (show false = orN (fun j => σ sa j && σ sb j) (i + 1) by simp [orN, c_4, c_11, c_54, c_75, c_80, c_97, c_102])) (by first | rfl | exact congrArg nI (by omega)) _ (lv_sub hl [6, 7, 8, 3, 2, 1, 0] rfl)
                    ·
                      refine lv_iload hx hb dX1_alike_105 (lv_at hl 2 rfl) ?_
                      refine nv_ifz_eq (tgt := 114) hx hb dX1_alike_107 (by decide) (fun _ => ?_) (fun h => absurd (c_80.symm.trans h) (by decide))
                      refine lv_iconst (v := nI 0) hx hb dX1_alike_114 (by decide) ?_
                      refine lv_istore (lv' := [(5, .int (nI 0)), (4, .int (nI 0)), (3, .int (nI 1)), (8, .int (bI (σ sb i))), (7, .int (bI (σ sa i))), (0, .ref (ρ 0)), (1, .int (nI sa)), (2, .int (nI sb)), (6, .int (nI i))]) hx hb dX1_alike_115 hl (by decide) rfl (fun ls hl => ?_)
                      refine lv_iinc (v := nI (i + 1)) (lv' := [(6, .int (nI (i + 1))), (5, .int (nI 0)), (4, .int (nI 0)), (3, .int (nI 1)), (8, .int (bI (σ sb i))), (7, .int (bI (σ sa i))), (0, .ref (ρ 0)), (1, .int (nI sa)), (2, .int (nI sb))]) hx hb dX1_alike_117 hl (k := 8) rfl (inc_nI _) (by decide) rfl (fun ls hl => ?_)
                      refine lv_goto (tgt := 27) hx hb dX1_alike_120 (by decide) ?_
                      exact ih_27 (i + 1) (by omega) (by omega) _ _ _ _ (congrArg bI (show true = orN (fun j => σ sa j && !σ sb j) (i + 1) by simp [orN, c_4, c_11, c_54, c_75, c_80, c_97, c_102])) (congrArg bI (show false = orN (fun j => σ sb j && !σ sa j) (i + 1) by simp [orN, c_4, c_11, c_54, c_75, c_80, c_97, c_102])) (congrArg bI (show false = orN (fun j => σ sa j && σ sb j) (i + 1) by simp [orN, c_4, c_11, c_54, c_75, c_80, c_97, c_102])) (by first | rfl | exact congrArg nI (by omega)) _ (lv_sub hl [6, 7, 8, 3, 2, 1, 0] rfl)
                ·
                  refine lv_iload hx hb dX1_alike_83 (lv_at hl 2 rfl) ?_
                  refine nv_ifz_ne (tgt := 92) hx hb dX1_alike_85 (by decide) (fun c_85 => ?_) (fun c_85 => ?_)
                  ·
                    refine lv_iconst (v := nI 0) hx hb dX1_alike_92 (by decide) ?_
                    refine lv_istore (lv' := [(4, .int (nI 0)), (3, .int (nI 1)), (8, .int (bI (σ sb i))), (7, .int (bI (σ sa i))), (0, .ref (ρ 0)), (1, .int (nI sa)), (2, .int (nI sb)), (5, .int (bI (orN (fun j => σ sa j && σ sb j) i))), (6, .int (nI i))]) hx hb dX1_alike_93 hl (by decide) rfl (fun ls hl => ?_)
                    refine lv_iload hx hb dX1_alike_95 (lv_at hl 7 rfl) ?_
                    refine nv_ifz_ne (tgt := 110) hx hb dX1_alike_97 (by decide) (fun c_97 => ?_) (fun c_97 => ?_)
                    ·
                      refine lv_iconst (v := nI 1) hx hb dX1_alike_110 (by decide) ?_
                      refine lv_goto (tgt := 115) hx hb dX1_alike_111 (by decide) ?_
                      refine lv_istore (lv' := [(5, .int (nI 1)), (4, .int (nI 0)), (3, .int (nI 1)), (8, .int (bI (σ sb i))), (7, .int (bI (σ sa i))), (0, .ref (ρ 0)), (1, .int (nI sa)), (2, .int (nI sb)), (6, .int (nI i))]) hx hb dX1_alike_115 hl (by decide) rfl (fun ls hl => ?_)
                      refine lv_iinc (v := nI (i + 1)) (lv' := [(6, .int (nI (i + 1))), (5, .int (nI 1)), (4, .int (nI 0)), (3, .int (nI 1)), (8, .int (bI (σ sb i))), (7, .int (bI (σ sa i))), (0, .ref (ρ 0)), (1, .int (nI sa)), (2, .int (nI sb))]) hx hb dX1_alike_117 hl (k := 8) rfl (inc_nI _) (by decide) rfl (fun ls hl => ?_)
                      refine lv_goto (tgt := 27) hx hb dX1_alike_120 (by decide) ?_
                      exact ih_27 (i + 1) (by omega) (by omega) _ _ _ _ (congrArg bI (show true = orN (fun j => σ sa j && !σ sb j) (i + 1) by simp [orN, c_4, c_11, c_54, c_75, c_80, c_85, c_97])) (congrArg bI (show false = orN (fun j => σ sb j && !σ sa j) (i + 1) by simp [orN, c_4, c_11, c_54, c_75, c_80, c_85, c_97])) (congrArg bI (show true = orN (fun j => σ sa j && σ sb j) (i + 1) by simp [orN, c_4, c_11, c_54, c_75, c_80, c_85, c_97])) (by first | rfl | exact congrArg nI (by omega)) _ (lv_sub hl [6, 7, 8, 3, 2, 1, 0] rfl)
                    ·
                      refine lv_iload hx hb dX1_alike_100 (lv_at hl 3 rfl) ?_
                      refine nv_ifz_eq (tgt := 114) hx hb dX1_alike_102 (by decide) (fun h => absurd (c_85.symm.trans h) (by decide)) (fun _ => ?_)
                      refine lv_iload hx hb dX1_alike_105 (lv_at hl 2 rfl) ?_
                      refine nv_ifz_eq (tgt := 114) hx hb dX1_alike_107 (by decide) (fun h => absurd (c_80.symm.trans h) (by decide)) (fun _ => ?_)
                      refine lv_iconst (v := nI 1) hx hb dX1_alike_110 (by decide) ?_
                      refine lv_goto (tgt := 115) hx hb dX1_alike_111 (by decide) ?_
                      refine lv_istore (lv' := [(5, .int (nI 1)), (4, .int (nI 0)), (3, .int (nI 1)), (8, .int (bI (σ sb i))), (7, .int (bI (σ sa i))), (0, .ref (ρ 0)), (1, .int (nI sa)), (2, .int (nI sb)), (6, .int (nI i))]) hx hb dX1_alike_115 hl (by decide) rfl (fun ls hl => ?_)
                      refine lv_iinc (v := nI (i + 1)) (lv' := [(6, .int (nI (i + 1))), (5, .int (nI 1)), (4, .int (nI 0)), (3, .int (nI 1)), (8, .int (bI (σ sb i))), (7, .int (bI (σ sa i))), (0, .ref (ρ 0)), (1, .int (nI sa)), (2, .int (nI sb))]) hx hb dX1_alike_117 hl (k := 8) rfl (inc_nI _) (by decide) rfl (fun ls hl => ?_)
                      refine lv_goto (tgt := 27) hx hb dX1_alike_120 (by decide) ?_
                      exact ih_27 (i + 1) (by omega) (by omega) _ _ _ _ (congrArg bI (show true = orN (fun j => σ sa j && !σ sb j) (i + 1) by simp [orN, c_4, c_11, c_54, c_75, c_80, c_85, c_97])) (congrArg bI (show false = orN (fun j => σ sb j && !σ sa j) (i + 1) by simp [orN, c_4, c_11, c_54, c_75, c_80, c_85, c_97])) (congrArg bI (show true = orN (fun j => σ sa j && σ sb j) (i + 1) by simp [orN, c_4, c_11, c_54, c_75, c_80, c_85, c_97])) (by first | rfl | exact congrArg nI (by omega)) _ (lv_sub hl [6, 7, 8, 3, 2, 1, 0] rfl)
                  ·
                    refine lv_iconst (v := nI 1) hx hb dX1_alike_88 (by decide) ?_
                    refine lv_goto (tgt := 93) hx hb dX1_alike_89 (by decide) ?_
                    refine lv_istore (lv' := [(4, .int (nI 1)), (3, .int (nI 1)), (8, .int (bI (σ sb i))), (7, .int (bI (σ sa i))), (0, .ref (ρ 0)), (1, .int (nI sa)), (2, .int (nI sb)), (5, .int (bI (orN (fun j => σ sa j && σ sb j) i))), (6, .int (nI i))]) hx hb dX1_alike_93 hl (by decide) rfl (fun ls hl => ?_)
                    refine lv_iload hx hb dX1_alike_95 (lv_at hl 7 rfl) ?_
                    refine nv_ifz_ne (tgt := 110) hx hb dX1_alike_97 (by decide) (fun c_97 => ?_) (fun c_97 => ?_)
                    ·
                      refine lv_iconst (v := nI 1) hx hb dX1_alike_110 (by decide) ?_
                      refine lv_goto (tgt := 115) hx hb dX1_alike_111 (by decide) ?_
                      refine lv_istore (lv' := [(5, .int (nI 1)), (4, .int (nI 1)), (3, .int (nI 1)), (8, .int (bI (σ sb i))), (7, .int (bI (σ sa i))), (0, .ref (ρ 0)), (1, .int (nI sa)), (2, .int (nI sb)), (6, .int (nI i))]) hx hb dX1_alike_115 hl (by decide) rfl (fun ls hl => ?_)
                      refine lv_iinc (v := nI (i + 1)) (lv' := [(6, .int (nI (i + 1))), (5, .int (nI 1)), (4, .int (nI 1)), (3, .int (nI 1)), (8, .int (bI (σ sb i))), (7, .int (bI (σ sa i))), (0, .ref (ρ 0)), (1, .int (nI sa)), (2, .int (nI sb))]) hx hb dX1_alike_117 hl (k := 8) rfl (inc_nI _) (by decide) rfl (fun ls hl => ?_)
                      refine lv_goto (tgt := 27) hx hb dX1_alike_120 (by decide) ?_
                      exact ih_27 (i + 1) (by omega) (by omega) _ _ _ _ (congrArg bI (show true = orN (fun j => σ sa j && !σ sb j) (i + 1) by simp [orN, c_4, c_11, c_54, c_75, c_80, c_85, c_97])) (congrArg bI (show true = orN (fun j => σ sb j && !σ sa j) (i + 1) by simp [orN, c_4, c_11, c_54, c_75, c_80, c_85, c_97])) (congrArg bI (show true = orN (fun j => σ sa j && σ sb j) (i + 1) by simp [orN, c_4, c_11, c_54, c_75, c_80, c_85, c_97])) (by first | rfl | exact congrArg nI (by omega)) _ (lv_sub hl [6, 7, 8, 3, 2, 1, 0] rfl)
                    ·
                      refine lv_iload hx hb dX1_alike_100 (lv_at hl 3 rfl) ?_
                      refine nv_ifz_eq (tgt := 114) hx hb dX1_alike_102 (by decide) (fun _ => ?_) (fun h => absurd (c_85.symm.trans h) (by decide))
                      refine lv_iconst (v := nI 0) hx hb dX1_alike_114 (by decide) ?_
                      refine lv_istore (lv' := [(5, .int (nI 0)), (4, .int (nI 1)), (3, .int (nI 1)), (8, .int (bI (σ sb i))), (7, .int (bI (σ sa i))), (0, .ref (ρ 0)), (1, .int (nI sa)), (2, .int (nI sb)), (6, .int (nI i))]) hx hb dX1_alike_115 hl (by decide) rfl (fun ls hl => ?_)
                      refine lv_iinc (v := nI (i + 1)) (lv' := [(6, .int (nI (i + 1))), (5, .int (nI 0)), (4, .int (nI 1)), (3, .int (nI 1)), (8, .int (bI (σ sb i))), (7, .int (bI (σ sa i))), (0, .ref (ρ 0)), (1, .int (nI sa)), (2, .int (nI sb))]) hx hb dX1_alike_117 hl (k := 8) rfl (inc_nI _) (by decide) rfl (fun ls hl => ?_)
                      refine lv_goto (tgt := 27) hx hb dX1_alike_120 (by decide) ?_
                      exact ih_27 (i + 1) (by omega) (by omega) _ _ _ _ (congrArg bI (show true = orN (fun j => σ sa j && !σ sb j) (i + 1) by simp [orN, c_4, c_11, c_54, c_75, c_80, c_85, c_97])) (congrArg bI (show true = orN (fun j => σ sb j && !σ sa j) (i + 1) by simp [orN, c_4, c_11, c_54, c_75, c_80, c_85, c_97])) (congrArg bI (show false = orN (fun j => σ sa j && σ sb j) (i + 1) by simp [orN, c_4, c_11, c_54, c_75, c_80, c_85, c_97])) (by first | rfl | exact congrArg nI (by omega)) _ (lv_sub hl [6, 7, 8, 3, 2, 1, 0] rfl)
            ·
              refine lv_iload hx hb dX1_alike_57 (lv_at hl 1 rfl) ?_
              refine nv_ifz_eq (tgt := 71) hx hb dX1_alike_59 (by decide) (fun c_59 => ?_) (fun c_59 => ?_)
              ·
                refine lv_iconst (v := nI 0) hx hb dX1_alike_71 (by decide) ?_
                refine lv_istore_n (lv' := [(3, .int (nI 0)), (8, .int (bI (σ sb i))), (7, .int (bI (σ sa i))), (0, .ref (ρ 0)), (1, .int (nI sa)), (2, .int (nI sb)), (4, .int (bI (orN (fun j => σ sb j && !σ sa j) i))), (5, .int (bI (orN (fun j => σ sa j && σ sb j) i))), (6, .int (nI i))]) hx hb dX1_alike_72 rfl hl (by decide) rfl (fun ls hl => ?_)
                refine lv_iload hx hb dX1_alike_73 (lv_at hl 6 rfl) ?_
                refine nv_ifz_ne (tgt := 88) hx hb dX1_alike_75 (by decide) (fun c_75 => ?_) (fun c_75 => ?_)
                ·
                  refine lv_iconst (v := nI 1) hx hb dX1_alike_88 (by decide) ?_
                  refine lv_goto (tgt := 93) hx hb dX1_alike_89 (by decide) ?_
                  refine lv_istore (lv' := [(4, .int (nI 1)), (3, .int (nI 0)), (8, .int (bI (σ sb i))), (7, .int (bI (σ sa i))), (0, .ref (ρ 0)), (1, .int (nI sa)), (2, .int (nI sb)), (5, .int (bI (orN (fun j => σ sa j && σ sb j) i))), (6, .int (nI i))]) hx hb dX1_alike_93 hl (by decide) rfl (fun ls hl => ?_)
                  refine lv_iload hx hb dX1_alike_95 (lv_at hl 7 rfl) ?_
                  refine nv_ifz_ne (tgt := 110) hx hb dX1_alike_97 (by decide) (fun c_97 => ?_) (fun c_97 => ?_)
                  ·
                    refine lv_iconst (v := nI 1) hx hb dX1_alike_110 (by decide) ?_
                    refine lv_goto (tgt := 115) hx hb dX1_alike_111 (by decide) ?_
                    refine lv_istore (lv' := [(5, .int (nI 1)), (4, .int (nI 1)), (3, .int (nI 0)), (8, .int (bI (σ sb i))), (7, .int (bI (σ sa i))), (0, .ref (ρ 0)), (1, .int (nI sa)), (2, .int (nI sb)), (6, .int (nI i))]) hx hb dX1_alike_115 hl (by decide) rfl (fun ls hl => ?_)
                    refine lv_iinc (v := nI (i + 1)) (lv' := [(6, .int (nI (i + 1))), (5, .int (nI 1)), (4, .int (nI 1)), (3, .int (nI 0)), (8, .int (bI (σ sb i))), (7, .int (bI (σ sa i))), (0, .ref (ρ 0)), (1, .int (nI sa)), (2, .int (nI sb))]) hx hb dX1_alike_117 hl (k := 8) rfl (inc_nI _) (by decide) rfl (fun ls hl => ?_)
                    refine lv_goto (tgt := 27) hx hb dX1_alike_120 (by decide) ?_
                    exact ih_27 (i + 1) (by omega) (by omega) _ _ _ _ (congrArg bI (show false = orN (fun j => σ sa j && !σ sb j) (i + 1) by simp [orN, c_4, c_11, c_54, c_59, c_75, c_97])) (congrArg bI (show true = orN (fun j => σ sb j && !σ sa j) (i + 1) by simp [orN, c_4, c_11, c_54, c_59, c_75, c_97])) (congrArg bI (show true = orN (fun j => σ sa j && σ sb j) (i + 1) by simp [orN, c_4, c_11, c_54, c_59, c_75, c_97])) (by first | rfl | exact congrArg nI (by omega)) _ (lv_sub hl [6, 7, 8, 3, 2, 1, 0] rfl)
                  ·
                    refine lv_iload hx hb dX1_alike_100 (lv_at hl 3 rfl) ?_
                    refine nv_ifz_eq (tgt := 114) hx hb dX1_alike_102 (by decide) (fun _ => ?_) (fun h => absurd (c_59.symm.trans h) (by decide))
                    refine lv_iconst (v := nI 0) hx hb dX1_alike_114 (by decide) ?_
                    refine lv_istore (lv' := [(5, .int (nI 0)), (4, .int (nI 1)), (3, .int (nI 0)), (8, .int (bI (σ sb i))), (7, .int (bI (σ sa i))), (0, .ref (ρ 0)), (1, .int (nI sa)), (2, .int (nI sb)), (6, .int (nI i))]) hx hb dX1_alike_115 hl (by decide) rfl (fun ls hl => ?_)
                    refine lv_iinc (v := nI (i + 1)) (lv' := [(6, .int (nI (i + 1))), (5, .int (nI 0)), (4, .int (nI 1)), (3, .int (nI 0)), (8, .int (bI (σ sb i))), (7, .int (bI (σ sa i))), (0, .ref (ρ 0)), (1, .int (nI sa)), (2, .int (nI sb))]) hx hb dX1_alike_117 hl (k := 8) rfl (inc_nI _) (by decide) rfl (fun ls hl => ?_)
                    refine lv_goto (tgt := 27) hx hb dX1_alike_120 (by decide) ?_
                    exact ih_27 (i + 1) (by omega) (by omega) _ _ _ _ (congrArg bI (show false = orN (fun j => σ sa j && !σ sb j) (i + 1) by simp [orN, c_4, c_11, c_54, c_59, c_75, c_97])) (congrArg bI (show true = orN (fun j => σ sb j && !σ sa j) (i + 1) by simp [orN, c_4, c_11, c_54, c_59, c_75, c_97])) (congrArg bI (show false = orN (fun j => σ sa j && σ sb j) (i + 1) by simp [orN, c_4, c_11, c_54, c_59, c_75, c_97])) (by first | rfl | exact congrArg nI (by omega)) _ (lv_sub hl [6, 7, 8, 3, 2, 1, 0] rfl)
                ·
                  refine lv_iload hx hb dX1_alike_78 (lv_at hl 1 rfl) ?_
                  refine nv_ifz_eq (tgt := 92) hx hb dX1_alike_80 (by decide) (fun c_80 => ?_) (fun c_80 => ?_)
                  ·
                    refine lv_iconst (v := nI 0) hx hb dX1_alike_92 (by decide) ?_
                    refine lv_istore (lv' := [(4, .int (nI 0)), (3, .int (nI 0)), (8, .int (bI (σ sb i))), (7, .int (bI (σ sa i))), (0, .ref (ρ 0)), (1, .int (nI sa)), (2, .int (nI sb)), (5, .int (bI (orN (fun j => σ sa j && σ sb j) i))), (6, .int (nI i))]) hx hb dX1_alike_93 hl (by decide) rfl (fun ls hl => ?_)
                    refine lv_iload hx hb dX1_alike_95 (lv_at hl 7 rfl) ?_
                    refine nv_ifz_ne (tgt := 110) hx hb dX1_alike_97 (by decide) (fun c_97 => ?_) (fun c_97 => ?_)
                    ·
                      refine lv_iconst (v := nI 1) hx hb dX1_alike_110 (by decide) ?_
                      refine lv_goto (tgt := 115) hx hb dX1_alike_111 (by decide) ?_
                      refine lv_istore (lv' := [(5, .int (nI 1)), (4, .int (nI 0)), (3, .int (nI 0)), (8, .int (bI (σ sb i))), (7, .int (bI (σ sa i))), (0, .ref (ρ 0)), (1, .int (nI sa)), (2, .int (nI sb)), (6, .int (nI i))]) hx hb dX1_alike_115 hl (by decide) rfl (fun ls hl => ?_)
                      refine lv_iinc (v := nI (i + 1)) (lv' := [(6, .int (nI (i + 1))), (5, .int (nI 1)), (4, .int (nI 0)), (3, .int (nI 0)), (8, .int (bI (σ sb i))), (7, .int (bI (σ sa i))), (0, .ref (ρ 0)), (1, .int (nI sa)), (2, .int (nI sb))]) hx hb dX1_alike_117 hl (k := 8) rfl (inc_nI _) (by decide) rfl (fun ls hl => ?_)
                      refine lv_goto (tgt := 27) hx hb dX1_alike_120 (by decide) ?_
                      exact ih_27 (i + 1) (by omega) (by omega) _ _ _ _ (congrArg bI (show false = orN (fun j => σ sa j && !σ sb j) (i + 1) by simp [orN, c_4, c_11, c_54, c_59, c_75, c_80, c_97])) (congrArg bI (show false = orN (fun j => σ sb j && !σ sa j) (i + 1) by simp [orN, c_4, c_11, c_54, c_59, c_75, c_80, c_97])) (congrArg bI (show true = orN (fun j => σ sa j && σ sb j) (i + 1) by simp [orN, c_4, c_11, c_54, c_59, c_75, c_80, c_97])) (by first | rfl | exact congrArg nI (by omega)) _ (lv_sub hl [6, 7, 8, 3, 2, 1, 0] rfl)
                    ·
                      refine lv_iload hx hb dX1_alike_100 (lv_at hl 3 rfl) ?_
                      refine nv_ifz_eq (tgt := 114) hx hb dX1_alike_102 (by decide) (fun _ => ?_) (fun h => absurd (c_59.symm.trans h) (by decide))
                      refine lv_iconst (v := nI 0) hx hb dX1_alike_114 (by decide) ?_
                      refine lv_istore (lv' := [(5, .int (nI 0)), (4, .int (nI 0)), (3, .int (nI 0)), (8, .int (bI (σ sb i))), (7, .int (bI (σ sa i))), (0, .ref (ρ 0)), (1, .int (nI sa)), (2, .int (nI sb)), (6, .int (nI i))]) hx hb dX1_alike_115 hl (by decide) rfl (fun ls hl => ?_)
                      refine lv_iinc (v := nI (i + 1)) (lv' := [(6, .int (nI (i + 1))), (5, .int (nI 0)), (4, .int (nI 0)), (3, .int (nI 0)), (8, .int (bI (σ sb i))), (7, .int (bI (σ sa i))), (0, .ref (ρ 0)), (1, .int (nI sa)), (2, .int (nI sb))]) hx hb dX1_alike_117 hl (k := 8) rfl (inc_nI _) (by decide) rfl (fun ls hl => ?_)
                      refine lv_goto (tgt := 27) hx hb dX1_alike_120 (by decide) ?_
                      exact ih_27 (i + 1) (by omega) (by omega) _ _ _ _ (congrArg bI (show false = orN (fun j => σ sa j && !σ sb j) (i + 1) by simp [orN, c_4, c_11, c_54, c_59, c_75, c_80, c_97])) (congrArg bI (show false = orN (fun j => σ sb j && !σ sa j) (i + 1) by simp [orN, c_4, c_11, c_54, c_59, c_75, c_80, c_97])) (congrArg bI (show false = orN (fun j => σ sa j && σ sb j) (i + 1) by simp [orN, c_4, c_11, c_54, c_59, c_75, c_80, c_97])) (by first | rfl | exact congrArg nI (by omega)) _ (lv_sub hl [6, 7, 8, 3, 2, 1, 0] rfl)
                  ·
                    refine lv_iload hx hb dX1_alike_83 (lv_at hl 2 rfl) ?_
                    refine nv_ifz_ne (tgt := 92) hx hb dX1_alike_85 (by decide) (fun h => absurd (c_59.symm.trans h) (by decide)) (fun _ => ?_)
                    refine lv_iconst (v := nI 1) hx hb dX1_alike_88 (by decide) ?_
                    refine lv_goto (tgt := 93) hx hb dX1_alike_89 (by decide) ?_
                    refine lv_istore (lv' := [(4, .int (nI 1)), (3, .int (nI 0)), (8, .int (bI (σ sb i))), (7, .int (bI (σ sa i))), (0, .ref (ρ 0)), (1, .int (nI sa)), (2, .int (nI sb)), (5, .int (bI (orN (fun j => σ sa j && σ sb j) i))), (6, .int (nI i))]) hx hb dX1_alike_93 hl (by decide) rfl (fun ls hl => ?_)
                    refine lv_iload hx hb dX1_alike_95 (lv_at hl 7 rfl) ?_
                    refine nv_ifz_ne (tgt := 110) hx hb dX1_alike_97 (by decide) (fun c_97 => ?_) (fun c_97 => ?_)
                    ·
                      refine lv_iconst (v := nI 1) hx hb dX1_alike_110 (by decide) ?_
                      refine lv_goto (tgt := 115) hx hb dX1_alike_111 (by decide) ?_
                      refine lv_istore (lv' := [(5, .int (nI 1)), (4, .int (nI 1)), (3, .int (nI 0)), (8, .int (bI (σ sb i))), (7, .int (bI (σ sa i))), (0, .ref (ρ 0)), (1, .int (nI sa)), (2, .int (nI sb)), (6, .int (nI i))]) hx hb dX1_alike_115 hl (by decide) rfl (fun ls hl => ?_)
                      refine lv_iinc (v := nI (i + 1)) (lv' := [(6, .int (nI (i + 1))), (5, .int (nI 1)), (4, .int (nI 1)), (3, .int (nI 0)), (8, .int (bI (σ sb i))), (7, .int (bI (σ sa i))), (0, .ref (ρ 0)), (1, .int (nI sa)), (2, .int (nI sb))]) hx hb dX1_alike_117 hl (k := 8) rfl (inc_nI _) (by decide) rfl (fun ls hl => ?_)
                      refine lv_goto (tgt := 27) hx hb dX1_alike_120 (by decide) ?_
                      exact ih_27 (i + 1) (by omega) (by omega) _ _ _ _ (congrArg bI (show false = orN (fun j => σ sa j && !σ sb j) (i + 1) by simp [orN, c_4, c_11, c_54, c_59, c_75, c_80, c_97])) (congrArg bI (show true = orN (fun j => σ sb j && !σ sa j) (i + 1) by simp [orN, c_4, c_11, c_54, c_59, c_75, c_80, c_97])) (congrArg bI (show true = orN (fun j => σ sa j && σ sb j) (i + 1) by simp [orN, c_4, c_11, c_54, c_59, c_75, c_80, c_97])) (by first | rfl | exact congrArg nI (by omega)) _ (lv_sub hl [6, 7, 8, 3, 2, 1, 0] rfl)
                    ·
                      refine lv_iload hx hb dX1_alike_100 (lv_at hl 3 rfl) ?_
                      refine nv_ifz_eq (tgt := 114) hx hb dX1_alike_102 (by decide) (fun _ => ?_) (fun h => absurd (c_59.symm.trans h) (by decide))
                      refine lv_iconst (v := nI 0) hx hb dX1_alike_114 (by decide) ?_
                      refine lv_istore (lv' := [(5, .int (nI 0)), (4, .int (nI 1)), (3, .int (nI 0)), (8, .int (bI (σ sb i))), (7, .int (bI (σ sa i))), (0, .ref (ρ 0)), (1, .int (nI sa)), (2, .int (nI sb)), (6, .int (nI i))]) hx hb dX1_alike_115 hl (by decide) rfl (fun ls hl => ?_)
                      refine lv_iinc (v := nI (i + 1)) (lv' := [(6, .int (nI (i + 1))), (5, .int (nI 0)), (4, .int (nI 1)), (3, .int (nI 0)), (8, .int (bI (σ sb i))), (7, .int (bI (σ sa i))), (0, .ref (ρ 0)), (1, .int (nI sa)), (2, .int (nI sb))]) hx hb dX1_alike_117 hl (k := 8) rfl (inc_nI _) (by decide) rfl (fun ls hl => ?_)
                      refine lv_goto (tgt := 27) hx hb dX1_alike_120 (by decide) ?_
                      exact ih_27 (i + 1) (by omega) (by omega) _ _ _ _ (congrArg bI (show false = orN (fun j => σ sa j && !σ sb j) (i + 1) by simp [orN, c_4, c_11, c_54, c_59, c_75, c_80, c_97])) (congrArg bI (show true = orN (fun j => σ sb j && !σ sa j) (i + 1) by simp [orN, c_4, c_11, c_54, c_59, c_75, c_80, c_97])) (congrArg bI (show false = orN (fun j => σ sa j && σ sb j) (i + 1) by simp [orN, c_4, c_11, c_54, c_59, c_75, c_80, c_97])) (by first | rfl | exact congrArg nI (by omega)) _ (lv_sub hl [6, 7, 8, 3, 2, 1, 0] rfl)
              ·
                refine lv_iload hx hb dX1_alike_62 (lv_at hl 0 rfl) ?_
                refine nv_ifz_ne (tgt := 71) hx hb dX1_alike_64 (by decide) (fun c_64 => ?_) (fun c_64 => ?_)
                ·
                  refine lv_iconst (v := nI 0) hx hb dX1_alike_71 (by decide) ?_
                  refine lv_istore_n (lv' := [(3, .int (nI 0)), (8, .int (bI (σ sb i))), (7, .int (bI (σ sa i))), (0, .ref (ρ 0)), (1, .int (nI sa)), (2, .int (nI sb)), (4, .int (bI (orN (fun j => σ sb j && !σ sa j) i))), (5, .int (bI (orN (fun j => σ sa j && σ sb j) i))), (6, .int (nI i))]) hx hb dX1_alike_72 rfl hl (by decide) rfl (fun ls hl => ?_)
                  refine lv_iload hx hb dX1_alike_73 (lv_at hl 6 rfl) ?_
                  refine nv_ifz_ne (tgt := 88) hx hb dX1_alike_75 (by decide) (fun c_75 => ?_) (fun c_75 => ?_)
                  ·
                    refine lv_iconst (v := nI 1) hx hb dX1_alike_88 (by decide) ?_
                    refine lv_goto (tgt := 93) hx hb dX1_alike_89 (by decide) ?_
                    refine lv_istore (lv' := [(4, .int (nI 1)), (3, .int (nI 0)), (8, .int (bI (σ sb i))), (7, .int (bI (σ sa i))), (0, .ref (ρ 0)), (1, .int (nI sa)), (2, .int (nI sb)), (5, .int (bI (orN (fun j => σ sa j && σ sb j) i))), (6, .int (nI i))]) hx hb dX1_alike_93 hl (by decide) rfl (fun ls hl => ?_)
                    refine lv_iload hx hb dX1_alike_95 (lv_at hl 7 rfl) ?_
                    refine nv_ifz_ne (tgt := 110) hx hb dX1_alike_97 (by decide) (fun c_97 => ?_) (fun c_97 => ?_)
                    ·
                      refine lv_iconst (v := nI 1) hx hb dX1_alike_110 (by decide) ?_
                      refine lv_goto (tgt := 115) hx hb dX1_alike_111 (by decide) ?_
                      refine lv_istore (lv' := [(5, .int (nI 1)), (4, .int (nI 1)), (3, .int (nI 0)), (8, .int (bI (σ sb i))), (7, .int (bI (σ sa i))), (0, .ref (ρ 0)), (1, .int (nI sa)), (2, .int (nI sb)), (6, .int (nI i))]) hx hb dX1_alike_115 hl (by decide) rfl (fun ls hl => ?_)
                      refine lv_iinc (v := nI (i + 1)) (lv' := [(6, .int (nI (i + 1))), (5, .int (nI 1)), (4, .int (nI 1)), (3, .int (nI 0)), (8, .int (bI (σ sb i))), (7, .int (bI (σ sa i))), (0, .ref (ρ 0)), (1, .int (nI sa)), (2, .int (nI sb))]) hx hb dX1_alike_117 hl (k := 8) rfl (inc_nI _) (by decide) rfl (fun ls hl => ?_)
                      refine lv_goto (tgt := 27) hx hb dX1_alike_120 (by decide) ?_
                      exact ih_27 (i + 1) (by omega) (by omega) _ _ _ _ (congrArg bI (show false = orN (fun j => σ sa j && !σ sb j) (i + 1) by simp [orN, c_4, c_11, c_54, c_59, c_64, c_75, c_97])) (congrArg bI (show true = orN (fun j => σ sb j && !σ sa j) (i + 1) by simp [orN, c_4, c_11, c_54, c_59, c_64, c_75, c_97])) (congrArg bI (show true = orN (fun j => σ sa j && σ sb j) (i + 1) by simp [orN, c_4, c_11, c_54, c_59, c_64, c_75, c_97])) (by first | rfl | exact congrArg nI (by omega)) _ (lv_sub hl [6, 7, 8, 3, 2, 1, 0] rfl)
                    ·
                      refine lv_iload hx hb dX1_alike_100 (lv_at hl 3 rfl) ?_
                      refine nv_ifz_eq (tgt := 114) hx hb dX1_alike_102 (by decide) (fun h => absurd (c_59.symm.trans h) (by decide)) (fun _ => ?_)
                      refine lv_iload hx hb dX1_alike_105 (lv_at hl 2 rfl) ?_
                      refine nv_ifz_eq (tgt := 114) hx hb dX1_alike_107 (by decide) (fun h => absurd (c_64.symm.trans h) (by decide)) (fun _ => ?_)
                      refine lv_iconst (v := nI 1) hx hb dX1_alike_110 (by decide) ?_
                      refine lv_goto (tgt := 115) hx hb dX1_alike_111 (by decide) ?_
                      refine lv_istore (lv' := [(5, .int (nI 1)), (4, .int (nI 1)), (3, .int (nI 0)), (8, .int (bI (σ sb i))), (7, .int (bI (σ sa i))), (0, .ref (ρ 0)), (1, .int (nI sa)), (2, .int (nI sb)), (6, .int (nI i))]) hx hb dX1_alike_115 hl (by decide) rfl (fun ls hl => ?_)
                      refine lv_iinc (v := nI (i + 1)) (lv' := [(6, .int (nI (i + 1))), (5, .int (nI 1)), (4, .int (nI 1)), (3, .int (nI 0)), (8, .int (bI (σ sb i))), (7, .int (bI (σ sa i))), (0, .ref (ρ 0)), (1, .int (nI sa)), (2, .int (nI sb))]) hx hb dX1_alike_117 hl (k := 8) rfl (inc_nI _) (by decide) rfl (fun ls hl => ?_)
                      refine lv_goto (tgt := 27) hx hb dX1_alike_120 (by decide) ?_
                      exact ih_27 (i + 1) (by omega) (by omega) _ _ _ _ (congrArg bI (show false = orN (fun j => σ sa j && !σ sb j) (i + 1) by simp [orN, c_4, c_11, c_54, c_59, c_64, c_75, c_97])) (congrArg bI (show true = orN (fun j => σ sb j && !σ sa j) (i + 1) by simp [orN, c_4, c_11, c_54, c_59, c_64, c_75, c_97])) (congrArg bI (show true = orN (fun j => σ sa j && σ sb j) (i + 1) by simp [orN, c_4, c_11, c_54, c_59, c_64, c_75, c_97])) (by first | rfl | exact congrArg nI (by omega)) _ (lv_sub hl [6, 7, 8, 3, 2, 1, 0] rfl)
                  ·
                    refine lv_iload hx hb dX1_alike_78 (lv_at hl 1 rfl) ?_
                    refine nv_ifz_eq (tgt := 92) hx hb dX1_alike_80 (by decide) (fun h => absurd (c_64.symm.trans h) (by decide)) (fun _ => ?_)
                    refine lv_iload hx hb dX1_alike_83 (lv_at hl 2 rfl) ?_
                    refine nv_ifz_ne (tgt := 92) hx hb dX1_alike_85 (by decide) (fun _ => ?_) (fun h => absurd (c_59.symm.trans h) (by decide))
                    refine lv_iconst (v := nI 0) hx hb dX1_alike_92 (by decide) ?_
                    refine lv_istore (lv' := [(4, .int (nI 0)), (3, .int (nI 0)), (8, .int (bI (σ sb i))), (7, .int (bI (σ sa i))), (0, .ref (ρ 0)), (1, .int (nI sa)), (2, .int (nI sb)), (5, .int (bI (orN (fun j => σ sa j && σ sb j) i))), (6, .int (nI i))]) hx hb dX1_alike_93 hl (by decide) rfl (fun ls hl => ?_)
                    refine lv_iload hx hb dX1_alike_95 (lv_at hl 7 rfl) ?_
                    refine nv_ifz_ne (tgt := 110) hx hb dX1_alike_97 (by decide) (fun c_97 => ?_) (fun c_97 => ?_)
                    ·
                      refine lv_iconst (v := nI 1) hx hb dX1_alike_110 (by decide) ?_
                      refine lv_goto (tgt := 115) hx hb dX1_alike_111 (by decide) ?_
                      refine lv_istore (lv' := [(5, .int (nI 1)), (4, .int (nI 0)), (3, .int (nI 0)), (8, .int (bI (σ sb i))), (7, .int (bI (σ sa i))), (0, .ref (ρ 0)), (1, .int (nI sa)), (2, .int (nI sb)), (6, .int (nI i))]) hx hb dX1_alike_115 hl (by decide) rfl (fun ls hl => ?_)
                      refine lv_iinc (v := nI (i + 1)) (lv' := [(6, .int (nI (i + 1))), (5, .int (nI 1)), (4, .int (nI 0)), (3, .int (nI 0)), (8, .int (bI (σ sb i))), (7, .int (bI (σ sa i))), (0, .ref (ρ 0)), (1, .int (nI sa)), (2, .int (nI sb))]) hx hb dX1_alike_117 hl (k := 8) rfl (inc_nI _) (by decide) rfl (fun ls hl => ?_)
                      refine lv_goto (tgt := 27) hx hb dX1_alike_120 (by decide) ?_
                      exact ih_27 (i + 1) (by omega) (by omega) _ _ _ _ (congrArg bI (show false = orN (fun j => σ sa j && !σ sb j) (i + 1) by simp [orN, c_4, c_11, c_54, c_59, c_64, c_75, c_97])) (congrArg bI (show false = orN (fun j => σ sb j && !σ sa j) (i + 1) by simp [orN, c_4, c_11, c_54, c_59, c_64, c_75, c_97])) (congrArg bI (show true = orN (fun j => σ sa j && σ sb j) (i + 1) by simp [orN, c_4, c_11, c_54, c_59, c_64, c_75, c_97])) (by first | rfl | exact congrArg nI (by omega)) _ (lv_sub hl [6, 7, 8, 3, 2, 1, 0] rfl)
                    ·
                      refine lv_iload hx hb dX1_alike_100 (lv_at hl 3 rfl) ?_
                      refine nv_ifz_eq (tgt := 114) hx hb dX1_alike_102 (by decide) (fun h => absurd (c_59.symm.trans h) (by decide)) (fun _ => ?_)
                      refine lv_iload hx hb dX1_alike_105 (lv_at hl 2 rfl) ?_
                      refine nv_ifz_eq (tgt := 114) hx hb dX1_alike_107 (by decide) (fun h => absurd (c_64.symm.trans h) (by decide)) (fun _ => ?_)
                      refine lv_iconst (v := nI 1) hx hb dX1_alike_110 (by decide) ?_
                      refine lv_goto (tgt := 115) hx hb dX1_alike_111 (by decide) ?_
                      refine lv_istore (lv' := [(5, .int (nI 1)), (4, .int (nI 0)), (3, .int (nI 0)), (8, .int (bI (σ sb i))), (7, .int (bI (σ sa i))), (0, .ref (ρ 0)), (1, .int (nI sa)), (2, .int (nI sb)), (6, .int (nI i))]) hx hb dX1_alike_115 hl (by decide) rfl (fun ls hl => ?_)
                      refine lv_iinc (v := nI (i + 1)) (lv' := [(6, .int (nI (i + 1))), (5, .int (nI 1)), (4, .int (nI 0)), (3, .int (nI 0)), (8, .int (bI (σ sb i))), (7, .int (bI (σ sa i))), (0, .ref (ρ 0)), (1, .int (nI sa)), (2, .int (nI sb))]) hx hb dX1_alike_117 hl (k := 8) rfl (inc_nI _) (by decide) rfl (fun ls hl => ?_)
                      refine lv_goto (tgt := 27) hx hb dX1_alike_120 (by decide) ?_
                      exact ih_27 (i + 1) (by omega) (by omega) _ _ _ _ (congrArg bI (show false = orN (fun j => σ sa j && !σ sb j) (i + 1) by simp [orN, c_4, c_11, c_54, c_59, c_64, c_75, c_97])) (congrArg bI (show false = orN (fun j => σ sb j && !σ sa j) (i + 1) by simp [orN, c_4, c_11, c_54, c_59, c_64, c_75, c_97])) (congrArg bI (show true = orN (fun j => σ sa j && σ sb j) (i + 1) by simp [orN, c_4, c_11, c_54, c_59, c_64, c_75, c_97])) (by first | rfl | exact congrArg nI (by omega)) _ (lv_sub hl [6, 7, 8, 3, 2, 1, 0] rfl)
                ·
                  refine lv_iconst (v := nI 1) hx hb dX1_alike_67 (by decide) ?_
                  refine lv_goto (tgt := 72) hx hb dX1_alike_68 (by decide) ?_
                  refine lv_istore_n (lv' := [(3, .int (nI 1)), (8, .int (bI (σ sb i))), (7, .int (bI (σ sa i))), (0, .ref (ρ 0)), (1, .int (nI sa)), (2, .int (nI sb)), (4, .int (bI (orN (fun j => σ sb j && !σ sa j) i))), (5, .int (bI (orN (fun j => σ sa j && σ sb j) i))), (6, .int (nI i))]) hx hb dX1_alike_72 rfl hl (by decide) rfl (fun ls hl => ?_)
                  refine lv_iload hx hb dX1_alike_73 (lv_at hl 6 rfl) ?_
                  refine nv_ifz_ne (tgt := 88) hx hb dX1_alike_75 (by decide) (fun c_75 => ?_) (fun c_75 => ?_)
                  ·
                    refine lv_iconst (v := nI 1) hx hb dX1_alike_88 (by decide) ?_
                    refine lv_goto (tgt := 93) hx hb dX1_alike_89 (by decide) ?_
                    refine lv_istore (lv' := [(4, .int (nI 1)), (3, .int (nI 1)), (8, .int (bI (σ sb i))), (7, .int (bI (σ sa i))), (0, .ref (ρ 0)), (1, .int (nI sa)), (2, .int (nI sb)), (5, .int (bI (orN (fun j => σ sa j && σ sb j) i))), (6, .int (nI i))]) hx hb dX1_alike_93 hl (by decide) rfl (fun ls hl => ?_)
                    refine lv_iload hx hb dX1_alike_95 (lv_at hl 7 rfl) ?_
                    refine nv_ifz_ne (tgt := 110) hx hb dX1_alike_97 (by decide) (fun c_97 => ?_) (fun c_97 => ?_)
                    ·
                      refine lv_iconst (v := nI 1) hx hb dX1_alike_110 (by decide) ?_
                      refine lv_goto (tgt := 115) hx hb dX1_alike_111 (by decide) ?_
                      refine lv_istore (lv' := [(5, .int (nI 1)), (4, .int (nI 1)), (3, .int (nI 1)), (8, .int (bI (σ sb i))), (7, .int (bI (σ sa i))), (0, .ref (ρ 0)), (1, .int (nI sa)), (2, .int (nI sb)), (6, .int (nI i))]) hx hb dX1_alike_115 hl (by decide) rfl (fun ls hl => ?_)
                      refine lv_iinc (v := nI (i + 1)) (lv' := [(6, .int (nI (i + 1))), (5, .int (nI 1)), (4, .int (nI 1)), (3, .int (nI 1)), (8, .int (bI (σ sb i))), (7, .int (bI (σ sa i))), (0, .ref (ρ 0)), (1, .int (nI sa)), (2, .int (nI sb))]) hx hb dX1_alike_117 hl (k := 8) rfl (inc_nI _) (by decide) rfl (fun ls hl => ?_)
                      refine lv_goto (tgt := 27) hx hb dX1_alike_120 (by decide) ?_
                      exact ih_27 (i + 1) (by omega) (by omega) _ _ _ _ (congrArg bI (show true = orN (fun j => σ sa j && !σ sb j) (i + 1) by simp [orN, c_4, c_11, c_54, c_59, c_64, c_75, c_97])) (congrArg bI (show true = orN (fun j => σ sb j && !σ sa j) (i + 1) by simp [orN, c_4, c_11, c_54, c_59, c_64, c_75, c_97])) (congrArg bI (show true = orN (fun j => σ sa j && σ sb j) (i + 1) by simp [orN, c_4, c_11, c_54, c_59, c_64, c_75, c_97])) (by first | rfl | exact congrArg nI (by omega)) _ (lv_sub hl [6, 7, 8, 3, 2, 1, 0] rfl)
                    ·
                      refine lv_iload hx hb dX1_alike_100 (lv_at hl 3 rfl) ?_
                      refine nv_ifz_eq (tgt := 114) hx hb dX1_alike_102 (by decide) (fun h => absurd (c_59.symm.trans h) (by decide)) (fun _ => ?_)
                      refine lv_iload hx hb dX1_alike_105 (lv_at hl 2 rfl) ?_
                      refine nv_ifz_eq (tgt := 114) hx hb dX1_alike_107 (by decide) (fun _ => ?_) (fun h => absurd (c_64.symm.trans h) (by decide))
                      refine lv_iconst (v := nI 0) hx hb dX1_alike_114 (by decide) ?_
                      refine lv_istore (lv' := [(5, .int (nI 0)), (4, .int (nI 1)), (3, .int (nI 1)), (8, .int (bI (σ sb i))), (7, .int (bI (σ sa i))), (0, .ref (ρ 0)), (1, .int (nI sa)), (2, .int (nI sb)), (6, .int (nI i))]) hx hb dX1_alike_115 hl (by decide) rfl (fun ls hl => ?_)
                      refine lv_iinc (v := nI (i + 1)) (lv' := [(6, .int (nI (i + 1))), (5, .int (nI 0)), (4, .int (nI 1)), (3, .int (nI 1)), (8, .int (bI (σ sb i))), (7, .int (bI (σ sa i))), (0, .ref (ρ 0)), (1, .int (nI sa)), (2, .int (nI sb))]) hx hb dX1_alike_117 hl (k := 8) rfl (inc_nI _) (by decide) rfl (fun ls hl => ?_)
                      refine lv_goto (tgt := 27) hx hb dX1_alike_120 (by decide) ?_
                      exact ih_27 (i + 1) (by omega) (by omega) _ _ _ _ (congrArg bI (show true = orN (fun j => σ sa j && !σ sb j) (i + 1) by simp [orN, c_4, c_11, c_54, c_59, c_64, c_75, c_97])) (congrArg bI (show true = orN (fun j => σ sb j && !σ sa j) (i + 1) by simp [orN, c_4, c_11, c_54, c_59, c_64, c_75, c_97])) (congrArg bI (show false = orN (fun j => σ sa j && σ sb j) (i + 1) by simp [orN, c_4, c_11, c_54, c_59, c_64, c_75, c_97])) (by first | rfl | exact congrArg nI (by omega)) _ (lv_sub hl [6, 7, 8, 3, 2, 1, 0] rfl)
                  ·
                    refine lv_iload hx hb dX1_alike_78 (lv_at hl 1 rfl) ?_
                    refine nv_ifz_eq (tgt := 92) hx hb dX1_alike_80 (by decide) (fun _ => ?_) (fun h => absurd (c_64.symm.trans h) (by decide))
                    refine lv_iconst (v := nI 0) hx hb dX1_alike_92 (by decide) ?_
                    refine lv_istore (lv' := [(4, .int (nI 0)), (3, .int (nI 1)), (8, .int (bI (σ sb i))), (7, .int (bI (σ sa i))), (0, .ref (ρ 0)), (1, .int (nI sa)), (2, .int (nI sb)), (5, .int (bI (orN (fun j => σ sa j && σ sb j) i))), (6, .int (nI i))]) hx hb dX1_alike_93 hl (by decide) rfl (fun ls hl => ?_)
                    refine lv_iload hx hb dX1_alike_95 (lv_at hl 7 rfl) ?_
                    refine nv_ifz_ne (tgt := 110) hx hb dX1_alike_97 (by decide) (fun c_97 => ?_) (fun c_97 => ?_)
                    ·
                      refine lv_iconst (v := nI 1) hx hb dX1_alike_110 (by decide) ?_
                      refine lv_goto (tgt := 115) hx hb dX1_alike_111 (by decide) ?_
                      refine lv_istore (lv' := [(5, .int (nI 1)), (4, .int (nI 0)), (3, .int (nI 1)), (8, .int (bI (σ sb i))), (7, .int (bI (σ sa i))), (0, .ref (ρ 0)), (1, .int (nI sa)), (2, .int (nI sb)), (6, .int (nI i))]) hx hb dX1_alike_115 hl (by decide) rfl (fun ls hl => ?_)
                      refine lv_iinc (v := nI (i + 1)) (lv' := [(6, .int (nI (i + 1))), (5, .int (nI 1)), (4, .int (nI 0)), (3, .int (nI 1)), (8, .int (bI (σ sb i))), (7, .int (bI (σ sa i))), (0, .ref (ρ 0)), (1, .int (nI sa)), (2, .int (nI sb))]) hx hb dX1_alike_117 hl (k := 8) rfl (inc_nI _) (by decide) rfl (fun ls hl => ?_)
                      refine lv_goto (tgt := 27) hx hb dX1_alike_120 (by decide) ?_
                      exact ih_27 (i + 1) (by omega) (by omega) _ _ _ _ (congrArg bI (show true = orN (fun j => σ sa j && !σ sb j) (i + 1) by simp [orN, c_4, c_11, c_54, c_59, c_64, c_75, c_97])) (congrArg bI (show false = orN (fun j => σ sb j && !σ sa j) (i + 1) by simp [orN, c_4, c_11, c_54, c_59, c_64, c_75, c_97])) (congrArg bI (show true = orN (fun j => σ sa j && σ sb j) (i + 1) by simp [orN, c_4, c_11, c_54, c_59, c_64, c_75, c_97])) (by first | rfl | exact congrArg nI (by omega)) _ (lv_sub hl [6, 7, 8, 3, 2, 1, 0] rfl)
                    ·
                      refine lv_iload hx hb dX1_alike_100 (lv_at hl 3 rfl) ?_
                      refine nv_ifz_eq (tgt := 114) hx hb dX1_alike_102 (by decide) (fun h => absurd (c_59.symm.trans h) (by decide)) (fun _ => ?_)
                      refine lv_iload hx hb dX1_alike_105 (lv_at hl 2 rfl) ?_
                      refine nv_ifz_eq (tgt := 114) hx hb dX1_alike_107 (by decide) (fun _ => ?_) (fun h => absurd (c_64.symm.trans h) (by decide))
                      refine lv_iconst (v := nI 0) hx hb dX1_alike_114 (by decide) ?_
                      refine lv_istore (lv' := [(5, .int (nI 0)), (4, .int (nI 0)), (3, .int (nI 1)), (8, .int (bI (σ sb i))), (7, .int (bI (σ sa i))), (0, .ref (ρ 0)), (1, .int (nI sa)), (2, .int (nI sb)), (6, .int (nI i))]) hx hb dX1_alike_115 hl (by decide) rfl (fun ls hl => ?_)
                      refine lv_iinc (v := nI (i + 1)) (lv' := [(6, .int (nI (i + 1))), (5, .int (nI 0)), (4, .int (nI 0)), (3, .int (nI 1)), (8, .int (bI (σ sb i))), (7, .int (bI (σ sa i))), (0, .ref (ρ 0)), (1, .int (nI sa)), (2, .int (nI sb))]) hx hb dX1_alike_117 hl (k := 8) rfl (inc_nI _) (by decide) rfl (fun ls hl => ?_)
                      refine lv_goto (tgt := 27) hx hb dX1_alike_120 (by decide) ?_
                      exact ih_27 (i + 1) (by omega) (by omega) _ _ _ _ (congrArg bI (show true = orN (fun j => σ sa j && !σ sb j) (i + 1) by simp [orN, c_4, c_11, c_54, c_59, c_64, c_75, c_97])) (congrArg bI (show false = orN (fun j => σ sb j && !σ sa j) (i + 1) by simp [orN, c_4, c_11, c_54, c_59, c_64, c_75, c_97])) (congrArg bI (show false = orN (fun j => σ sa j && σ sb j) (i + 1) by simp [orN, c_4, c_11, c_54, c_59, c_64, c_75, c_97])) (by first | rfl | exact congrArg nI (by omega)) _ (lv_sub hl [6, 7, 8, 3, 2, 1, 0] rfl)
      exact loop_27 (2401 - 0 + 1) 0 (by omega) (Nat.lt_succ_self _) _ _ _ _ (congrArg bI (show false = orN (fun j => σ sa j && !σ sb j) 0 by simp [orN, c_4, c_11])) (congrArg bI (show false = orN (fun j => σ sb j && !σ sa j) 0 by simp [orN, c_4, c_11])) (congrArg bI (show false = orN (fun j => σ sa j && σ sb j) 0 by simp [orN, c_4, c_11])) rfl _ (lv_sub hl [4, 5, 6, 3, 2, 1, 0] rfl)
    ·
      refine lv_iconst (v := (-1)) hx hb dX1_alike_14 (by decide) ?_
      exact ret_i hx hb hr hlocks dX1_alike_15 (by first | (simp [alikeR, gd, gs, c_4, c_11]; done) | (simp [alikeR, gd, gs, c_4]; done))
theorem nf_X1_image : nfOk yX1_image 1 := by unfold nfOk; decide +kernel
set_option maxHeartbeats 4000000 in
set_option maxRecDepth 100000 in
theorem c_X1_image (l : Launch) (D : va_G) (cI cZ : ClassId) (ρ : Nat → Nat) (ts : Nat) (σ : Nat → Nat → Bool) (κ : Int32) (mk : Nat → Int32) (qu : Nat → Int32) (x : Int32) (kp : Nat → Bool) (hκ : κ = kv kp) : Wr l yX1_image wsX1_image ({ frames := 1, cells := 0, slots := 0, locals := 22 }) [.ref (ρ 0), .int x] (XB D cI cZ ρ ts σ κ mk qu) (some (.int (imageR x))) (XS D cI ρ (imageS σ x) (kv (imageK kp x))) (xA 7 ρ) := by
  refine met_in RX1 (by decide) rfl rfl (Nat.le_of_ble_eq_true rfl) ?_
  intro p e s m below meth c ls S hr hlocks hl hB
  have hx := S.1
  have hb := S.2.1
  have hml := S.2.2.1
  have hown := S.2.2.2.1
  have hts := S.2.2.2.2
  have hl : lv_has ls 5 [(0, .ref (ρ 0)), (1, .int x)] := hl
  obtain ⟨⟨held, hRel, hP⟩, hXK⟩ := hB
  have hK := hXK.1
  have hS : va_S (xA 7 ρ) s.heap s.heap [] := va_S.rf
  refine lv_iload_n hx hb dX1_image_0 rfl (lv_at hl 1 rfl) ?_
  refine lv_iconst (v := nI 0) hx hb dX1_image_1 (by decide) ?_
  refine lv_iconst (v := nI 1) hx hb dX1_image_2 (by decide) ?_
  refine rd_S S hl (c_X1_within l x (nI 0) (nI 1)) HB.tt gX1_image_X1_within rfl nf_X1_within rfl rfl dX1_image_3  (fun _ _ _ => trivial) ?_
  refine nv_ifz_ne (tgt := 12) hx hb dX1_image_6 (by decide) (fun c_6 => ?_) (fun c_6 => ?_)
  ·
    obtain ⟨k, hk, hxk⟩ := wI_nat c_6 (by decide)
    subst hxk
    have hck : (nI k).toNatClampNeg = k := nI_clamp (by omega)
    refine lv_iload_n hx hb dX1_image_12 rfl (lv_at hl 1 rfl) ?_
    refine rd_S S hl (c_X1_imageShift l k) HB.tt gX1_image_X1_imageShift rfl nf_X1_imageShift rfl rfl dX1_image_13  (fun _ _ _ => trivial) ?_
    refine lv_istore_n (lv' := [(2, .int (nI (4 * (k + 1)))), (0, .ref (ρ 0)), (1, .int (nI k))]) hx hb dX1_image_16 rfl hl (by decide) rfl (fun ls hl => ?_)
    refine lv_iconst (v := nI 0) hx hb dX1_image_17 (by decide) ?_
    refine lv_istore_n (lv' := [(3, .int (nI 0)), (2, .int (nI (4 * (k + 1)))), (0, .ref (ρ 0)), (1, .int (nI k))]) hx hb dX1_image_18 rfl hl (by decide) rfl (fun ls hl => ?_)
    have loop_19 : ∀ (n : Nat) (i : Nat), (i ≤ 2401) → 2401 - i < n → ∀ (x3 : Int32), x3 = nI i → ∀ (H : Heap) (locs : List Loc), va_S (xA 7 ρ) s.heap H locs → XP D cI ρ (imgS σ k i) κ mk qu H → ∀ ls : Array Slot, lv_has ls 5 [(0, .ref (ρ 0)), (1, .int (nI k)), (2, .int (nI (4 * (k + 1)))), (3, .int x3)] → W p l e (headSpec wsX1_image ({ frames := 1, cells := 0, slots := 0, locals := 22 })).room s m [.ref (ρ 0), .int (nI k)].toArray below meth c H locs 0 0 (MQ below (qW (some (.int (imageR (nI k)))) (XS D cI ρ (imageS σ (nI k)) (kv (imageK kp (nI k)))) (xA 7 ρ)) [.ref (ρ 0), .int (nI k)].toArray s 0 0 (xA 7 ρ)) (F0 m 19 ls []) := by
      intro n
      induction n with
      | zero => intro i hi hm; exact absurd hm (Nat.not_lt_zero _)
      | succ n ih_19 =>
        intro i hi hm_19 x3 e3 H locs hS hPP ls hl
        subst e3
        obtain ⟨held, hRel, hP⟩ := hPP
        refine lv_iload_n hx hb dX1_image_19 rfl (lv_at hl 3 rfl) ?_
        refine lv_aload_n hx hb dX1_image_20 rfl (lv_at hl 0 rfl) ?_
        refine va_get (D := D) (ci := 1) (v := .ref (ρ 2)) (C := RX1) (T := TX1) (N := 5) hx hb hts (by decide +kernel) hown hK hP 0 rfl rfl 1 (by decide) (hts (.fieldLink RX1 16 "SevenKeys" "held" "[I") (by decide +kernel)) (fun _ h9 => h9) rfl dX1_image_21 ?_
        refine va_alen hx hb hK hP 2 0 rfl rfl (v := nI 2401) rfl dX1_image_24 ?_
        refine nv_icmp_ge (tgt := 69) hx hb dX1_image_25 (by decide) (by omega) (by omega) (fun c_25 => ?_) (fun c_25 => ?_)
        ·
          refine lv_aload_n hx hb dX1_image_69 rfl (lv_at hl 0 rfl) ?_
          refine lv_aload_n hx hb dX1_image_70 rfl (lv_at hl 0 rfl) ?_
          refine va_get (D := D) (ci := 1) (v := .int κ) (C := RX1) (T := TX1) (N := 5) hx hb hts (by decide +kernel) hown hK hP 0 rfl rfl 2 (by decide) (hts (.fieldLink RX1 20 "SevenKeys" "keptImages" "I") (by decide +kernel)) (fun _ h9 => h9) rfl dX1_image_71 ?_
          refine lv_iconst (v := nI 1) hx hb dX1_image_74 (by decide) ?_
          refine lv_iload_n hx hb dX1_image_75 rfl (lv_at hl 1 rfl) ?_
          refine lv_ishl hx hb dX1_image_76 ?_
          refine lv_ior hx hb dX1_image_77 ?_
          refine va_put (D := D) (ci := 1) (v := .int (κ ||| ((nI 1) <<< ((nI k) &&& 31)))) (ty := .int) (C := RX1) (T := TX1) (N := 5) hx hb hts (by decide +kernel) tyX1 tyX1_ok nmX1 hown hK hP hXK.D hS 0 rfl rfl 2 (by decide) (hts (.fieldLink RX1 20 "SevenKeys" "keptImages" "I") (by decide +kernel)) (fun _ h9 => h9) rfl (by decide +kernel) rfl rfl (Nat.le_of_ble_eq_true rfl) dX1_image_78 (fun H locs hP hD hS => ?_)
          have hP : va_P D vwCl (xW cI ρ held (κ ||| ((nI 1) <<< ((nI k) &&& 31))) mk qu) H := hP
          refine lv_iconst (v := nI 1) hx hb dX1_image_81 (by decide) ?_
          have hi2 : i = 2401 := by omega
          exact ret_wi hx hb hr hlocks dX1_image_82 hS (⟨_, _, held, hRel.eq (by rw [hi2]; simp [imageS, c_6, hck]), by simp only [imageK, c_6, cond_true, hck]; rw [← kv_set (by omega), ← hκ]; exact hP⟩) (by simp [imageR, gd, c_6])
        ·
          refine lv_aload_n hx hb dX1_image_28 rfl (lv_at hl 0 rfl) ?_
          refine va_get (D := D) (ci := 1) (v := .ref (ρ 2)) (C := RX1) (T := TX1) (N := 5) hx hb hts (by decide +kernel) hown hK hP 0 rfl rfl 1 (by decide) (hts (.fieldLink RX1 16 "SevenKeys" "held" "[I") (by decide +kernel)) (fun _ h9 => h9) rfl dX1_image_29 ?_
          refine lv_iload_n hx hb dX1_image_32 rfl (lv_at hl 3 rfl) ?_
          refine nv_iald hx hb hK hP 2 0 rfl rfl (by omega) (by decide) dX1_image_33 ?_
          refine lv_bipush (v := nI 15) hx hb dX1_image_34 (by decide) ?_
          refine lv_iload_n hx hb dX1_image_36 rfl (lv_at hl 2 rfl) ?_
          refine lv_ishl hx hb dX1_image_37 ?_
          refine lv_iconst (v := (-1)) hx hb dX1_image_38 (by decide) ?_
          refine lv_ixor hx hb dX1_image_39 ?_
          refine lv_iand hx hb dX1_image_40 ?_
          refine lv_istore (lv' := [(4, .int ((held i) &&& (((nI 15) <<< ((nI (4 * (k + 1))) &&& 31)) ^^^ (-1)))), (0, .ref (ρ 0)), (1, .int (nI k)), (2, .int (nI (4 * (k + 1)))), (3, .int (nI i))]) hx hb dX1_image_41 hl (by decide) rfl (fun ls hl => ?_)
          refine lv_aload_n hx hb dX1_image_43 rfl (lv_at hl 1 rfl) ?_
          refine va_get (D := D) (ci := 1) (v := .ref (ρ 2)) (C := RX1) (T := TX1) (N := 5) hx hb hts (by decide +kernel) hown hK hP 0 rfl rfl 1 (by decide) (hts (.fieldLink RX1 16 "SevenKeys" "held" "[I") (by decide +kernel)) (fun _ h9 => h9) rfl dX1_image_44 ?_
          refine lv_iload_n hx hb dX1_image_47 rfl (lv_at hl 4 rfl) ?_
          refine lv_iload hx hb dX1_image_48 (lv_at hl 0 rfl) ?_
          refine lv_aload_n hx hb dX1_image_50 rfl (lv_at hl 1 rfl) ?_
          refine va_get (D := D) (ci := 1) (v := .ref (ρ 2)) (C := RX1) (T := TX1) (N := 5) hx hb hts (by decide +kernel) hown hK hP 0 rfl rfl 1 (by decide) (hts (.fieldLink RX1 16 "SevenKeys" "held" "[I") (by decide +kernel)) (fun _ h9 => h9) rfl dX1_image_51 ?_
          refine lv_iload_n hx hb dX1_image_54 rfl (lv_at hl 4 rfl) ?_
          refine nv_iald hx hb hK hP 2 0 rfl rfl (by omega) (by decide) dX1_image_55 ?_
          refine lv_bipush (v := nI 15) hx hb dX1_image_56 (by decide) ?_
          refine lv_iand hx hb dX1_image_58 ?_
          refine lv_iload_n hx hb dX1_image_59 rfl (lv_at hl 3 rfl) ?_
          refine lv_ishl hx hb dX1_image_60 ?_
          refine lv_ior hx hb dX1_image_61 ?_
          refine nv_iast hx hb hK hP hXK.D hS 2 0 rfl rfl (by omega) (by decide) dX1_image_62 (fun H locs hP hS => ?_)
          have hP : va_P D vwCl (xW cI ρ (upd held i (((held i) &&& (((nI 15) <<< ((nI (4 * (k + 1))) &&& 31)) ^^^ (-1))) ||| (((held i) &&& (nI 15)) <<< ((nI (4 * (k + 1))) &&& 31)))) κ mk qu) H := hP
          refine lv_iinc (v := nI (i + 1)) (lv' := [(3, .int (nI (i + 1))), (4, .int ((held i) &&& (((nI 15) <<< ((nI (4 * (k + 1))) &&& 31)) ^^^ (-1)))), (0, .ref (ρ 0)), (1, .int (nI k)), (2, .int (nI (4 * (k + 1))))]) hx hb dX1_image_63 hl (k := 4) rfl (inc_nI _) (by decide) rfl (fun ls hl => ?_)
          refine lv_goto (tgt := 19) hx hb dX1_image_66 (by decide) ?_
          exact ih_19 (i + 1) (by omega) (by omega) _ (by first | rfl | exact congrArg nI (by omega)) _ _ hS ⟨_, img_rel hRel (by omega), hP⟩ _ (lv_sub hl [2, 3, 4, 0] rfl)
    exact loop_19 (2401 - 0 + 1) 0 (by omega) (Nat.lt_succ_self _) _ rfl _ _ hS ⟨held, hRel.eq img_0, hP⟩ _ (lv_sub hl [2, 3, 1, 0] rfl)
  ·
    refine lv_bipush (v := (-2)) hx hb dX1_image_9 (by decide) ?_
    exact ret_wi hx hb hr hlocks dX1_image_11 hS (⟨_, _, held, hRel.eq (by simp [imageS, c_6]), by simp only [imageK, c_6, cond_false]; rw [← hκ]; exact hP⟩) (by simp [imageR, gd, c_6])
theorem nf_X1_restore : nfOk yX1_restore 1 := by unfold nfOk; decide +kernel
set_option maxHeartbeats 4000000 in
set_option maxRecDepth 100000 in
theorem c_X1_restore (l : Launch) (D : va_G) (cI cZ : ClassId) (ρ : Nat → Nat) (ts : Nat) (σ : Nat → Nat → Bool) (κ : Int32) (mk : Nat → Int32) (qu : Nat → Int32) (x : Int32) (kp : Nat → Bool) (hκ : κ = kv kp) : Wr l yX1_restore wsX1_restore ({ frames := 1, cells := 0, slots := 0, locals := 22 }) [.ref (ρ 0), .int x] (XB D cI cZ ρ ts σ κ mk qu) (some (.int (restR kp x))) (XS D cI ρ (restS σ kp x) κ) (xA 7 ρ) := by
  refine met_in RX1 (by decide) rfl rfl (Nat.le_of_ble_eq_true rfl) ?_
  intro p e s m below meth c ls S hr hlocks hl hB
  have hx := S.1
  have hb := S.2.1
  have hml := S.2.2.1
  have hown := S.2.2.2.1
  have hts := S.2.2.2.2
  have hl : lv_has ls 4 [(0, .ref (ρ 0)), (1, .int x)] := hl
  obtain ⟨⟨held, hRel, hP⟩, hXK⟩ := hB
  have hK := hXK.1
  have hS : va_S (xA 7 ρ) s.heap s.heap [] := va_S.rf
  refine lv_iload_n hx hb dX1_restore_0 rfl (lv_at hl 1 rfl) ?_
  refine lv_iconst (v := nI 0) hx hb dX1_restore_1 (by decide) ?_
  refine lv_iconst (v := nI 1) hx hb dX1_restore_2 (by decide) ?_
  refine rd_S S hl (c_X1_within l x (nI 0) (nI 1)) HB.tt gX1_restore_X1_within rfl nf_X1_within rfl rfl dX1_restore_3  (fun _ _ _ => trivial) ?_
  refine nv_ifz_ne (tgt := 12) hx hb dX1_restore_6 (by decide) (fun c_6 => ?_) (fun c_6 => ?_)
  ·
    obtain ⟨k, hk, hxk⟩ := wI_nat c_6 (by decide)
    subst hxk
    have hck : (nI k).toNatClampNeg = k := nI_clamp (by omega)
    refine lv_aload_n hx hb dX1_restore_12 rfl (lv_at hl 0 rfl) ?_
    refine va_get (D := D) (ci := 1) (v := .int κ) (C := RX1) (T := TX1) (N := 5) hx hb hts (by decide +kernel) hown hK hP 0 rfl rfl 2 (by decide) (hts (.fieldLink RX1 20 "SevenKeys" "keptImages" "I") (by decide +kernel)) (fun _ h9 => h9) rfl dX1_restore_13 ?_
    refine lv_iload_n hx hb dX1_restore_16 rfl (lv_at hl 1 rfl) ?_
    refine lv_ishr hx hb dX1_restore_17 ?_
    refine lv_iconst (v := nI 1) hx hb dX1_restore_18 (by decide) ?_
    refine lv_iand hx hb dX1_restore_19 ?_
    refine nv_as (bI (kp k)) (by rw [hκ]; exact kv_get (by omega)) ?_
    refine nv_ifz_ne (tgt := 26) hx hb dX1_restore_20 (by decide) (fun c_20 => ?_) (fun c_20 => ?_)
    ·
      refine lv_iload_n hx hb dX1_restore_26 rfl (lv_at hl 1 rfl) ?_
      refine rd_S S hl (c_X1_imageShift l k) HB.tt gX1_restore_X1_imageShift rfl nf_X1_imageShift rfl rfl dX1_restore_27  (fun _ _ _ => trivial) ?_
      refine lv_istore_n (lv' := [(2, .int (nI (4 * (k + 1)))), (0, .ref (ρ 0)), (1, .int (nI k))]) hx hb dX1_restore_30 rfl hl (by decide) rfl (fun ls hl => ?_)
      refine lv_iconst (v := nI 0) hx hb dX1_restore_31 (by decide) ?_
      refine lv_istore_n (lv' := [(3, .int (nI 0)), (2, .int (nI (4 * (k + 1)))), (0, .ref (ρ 0)), (1, .int (nI k))]) hx hb dX1_restore_32 rfl hl (by decide) rfl (fun ls hl => ?_)
      have loop_33 : ∀ (n : Nat) (i : Nat), (i ≤ 2401) → 2401 - i < n → ∀ (x3 : Int32), x3 = nI i → ∀ (H : Heap) (locs : List Loc), va_S (xA 7 ρ) s.heap H locs → XP D cI ρ (rstS σ k i) κ mk qu H → ∀ ls : Array Slot, lv_has ls 4 [(0, .ref (ρ 0)), (1, .int (nI k)), (2, .int (nI (4 * (k + 1)))), (3, .int x3)] → W p l e (headSpec wsX1_restore ({ frames := 1, cells := 0, slots := 0, locals := 22 })).room s m [.ref (ρ 0), .int (nI k)].toArray below meth c H locs 0 0 (MQ below (qW (some (.int (restR kp (nI k)))) (XS D cI ρ (restS σ kp (nI k)) κ) (xA 7 ρ)) [.ref (ρ 0), .int (nI k)].toArray s 0 0 (xA 7 ρ)) (F0 m 33 ls []) := by
        intro n
        induction n with
        | zero => intro i hi hm; exact absurd hm (Nat.not_lt_zero _)
        | succ n ih_33 =>
          intro i hi hm_33 x3 e3 H locs hS hPP ls hl
          subst e3
          obtain ⟨held, hRel, hP⟩ := hPP
          refine lv_iload_n hx hb dX1_restore_33 rfl (lv_at hl 3 rfl) ?_
          refine lv_aload_n hx hb dX1_restore_34 rfl (lv_at hl 0 rfl) ?_
          refine va_get (D := D) (ci := 1) (v := .ref (ρ 2)) (C := RX1) (T := TX1) (N := 5) hx hb hts (by decide +kernel) hown hK hP 0 rfl rfl 1 (by decide) (hts (.fieldLink RX1 16 "SevenKeys" "held" "[I") (by decide +kernel)) (fun _ h9 => h9) rfl dX1_restore_35 ?_
          refine va_alen hx hb hK hP 2 0 rfl rfl (v := nI 2401) rfl dX1_restore_38 ?_
          refine nv_icmp_ge (tgt := 75) hx hb dX1_restore_39 (by decide) (by omega) (by omega) (fun c_39 => ?_) (fun c_39 => ?_)
          ·
            refine lv_iconst (v := nI 1) hx hb dX1_restore_75 (by decide) ?_
            have hi2 : i = 2401 := by omega
            exact ret_wi hx hb hr hlocks dX1_restore_76 hS (⟨_, _, held, hRel.eq (by rw [hi2]; simp [restS, c_6, c_20, hck]), hP⟩) (by simp [restR, gd, c_6, c_20, hck])
          ·
            refine lv_aload_n hx hb dX1_restore_42 rfl (lv_at hl 0 rfl) ?_
            refine va_get (D := D) (ci := 1) (v := .ref (ρ 2)) (C := RX1) (T := TX1) (N := 5) hx hb hts (by decide +kernel) hown hK hP 0 rfl rfl 1 (by decide) (hts (.fieldLink RX1 16 "SevenKeys" "held" "[I") (by decide +kernel)) (fun _ h9 => h9) rfl dX1_restore_43 ?_
            refine lv_iload_n hx hb dX1_restore_46 rfl (lv_at hl 3 rfl) ?_
            refine lv_aload_n hx hb dX1_restore_47 rfl (lv_at hl 0 rfl) ?_
            refine va_get (D := D) (ci := 1) (v := .ref (ρ 2)) (C := RX1) (T := TX1) (N := 5) hx hb hts (by decide +kernel) hown hK hP 0 rfl rfl 1 (by decide) (hts (.fieldLink RX1 16 "SevenKeys" "held" "[I") (by decide +kernel)) (fun _ h9 => h9) rfl dX1_restore_48 ?_
            refine lv_iload_n hx hb dX1_restore_51 rfl (lv_at hl 3 rfl) ?_
            refine nv_iald hx hb hK hP 2 0 rfl rfl (by omega) (by decide) dX1_restore_52 ?_
            refine lv_bipush (v := (-16)) hx hb dX1_restore_53 (by decide) ?_
            refine lv_iand hx hb dX1_restore_55 ?_
            refine lv_aload_n hx hb dX1_restore_56 rfl (lv_at hl 0 rfl) ?_
            refine va_get (D := D) (ci := 1) (v := .ref (ρ 2)) (C := RX1) (T := TX1) (N := 5) hx hb hts (by decide +kernel) hown hK hP 0 rfl rfl 1 (by decide) (hts (.fieldLink RX1 16 "SevenKeys" "held" "[I") (by decide +kernel)) (fun _ h9 => h9) rfl dX1_restore_57 ?_
            refine lv_iload_n hx hb dX1_restore_60 rfl (lv_at hl 3 rfl) ?_
            refine nv_iald hx hb hK hP 2 0 rfl rfl (by omega) (by decide) dX1_restore_61 ?_
            refine lv_iload_n hx hb dX1_restore_62 rfl (lv_at hl 2 rfl) ?_
            refine lv_ishr hx hb dX1_restore_63 ?_
            refine lv_bipush (v := nI 15) hx hb dX1_restore_64 (by decide) ?_
            refine lv_iand hx hb dX1_restore_66 ?_
            refine lv_ior hx hb dX1_restore_67 ?_
            refine nv_iast hx hb hK hP hXK.D hS 2 0 rfl rfl (by omega) (by decide) dX1_restore_68 (fun H locs hP hS => ?_)
            have hP : va_P D vwCl (xW cI ρ (upd held i (((held i) &&& (-16)) ||| (((held i) >>> ((nI (4 * (k + 1))) &&& 31)) &&& (nI 15)))) κ mk qu) H := hP
            refine lv_iinc (v := nI (i + 1)) (lv' := [(3, .int (nI (i + 1))), (0, .ref (ρ 0)), (1, .int (nI k)), (2, .int (nI (4 * (k + 1))))]) hx hb dX1_restore_69 hl (k := 3) rfl (inc_nI _) (by decide) rfl (fun ls hl => ?_)
            refine lv_goto (tgt := 33) hx hb dX1_restore_72 (by decide) ?_
            exact ih_33 (i + 1) (by omega) (by omega) _ (by first | rfl | exact congrArg nI (by omega)) _ _ hS ⟨_, rst_rel hRel (by omega), hP⟩ _ (lv_sub hl [1, 2, 3, 0] rfl)
      exact loop_33 (2401 - 0 + 1) 0 (by omega) (Nat.lt_succ_self _) _ rfl _ _ hS ⟨held, hRel.eq rst_0, hP⟩ _ (lv_sub hl [2, 3, 1, 0] rfl)
    ·
      refine lv_bipush (v := (-3)) hx hb dX1_restore_23 (by decide) ?_
      exact ret_wi hx hb hr hlocks dX1_restore_25 hS (⟨_, _, held, hRel.eq (by simp [restS, c_6, c_20, hck]), hP⟩) (by simp [restR, gd, c_6, c_20, hck])
  ·
    refine lv_bipush (v := (-2)) hx hb dX1_restore_9 (by decide) ?_
    exact ret_wi hx hb hr hlocks dX1_restore_11 hS (⟨_, _, held, hRel.eq (by simp [restS, c_6]), hP⟩) (by simp [restR, gd, c_6])
end
