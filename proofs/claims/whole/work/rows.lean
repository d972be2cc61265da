section
-- ===== PART A: goes FIRST, ahead of the names: the tables' words, and 'selects' of the private methods out of them =====
/-- a private method of a class that the tables say can be made, by its rows of tables_1 -/
def lw_okq (q : MethodName × Nat) : Prop := (q.1.cls ≠ "java/lang/invoke/MethodHandle" ∧ q.1.cls ≠ "java/lang/invoke/VarHandle") ∧ Cond.instantiable q.1.cls q.2 ∈ tables_1 ∧ Cond.privateMethod q.1 ∈ tables_1 ∧ Cond.instanceMethod q.1 ∈ tables_1
theorem lw_p0 : lw_okq (⟨"HotAisle$Aisle", "feedFurnace", "()V"⟩, 9) := ⟨⟨by decide +kernel, by decide +kernel⟩, List.mem_of_getElem? (i := 19) (by decide +kernel), List.mem_of_getElem? (i := 315) (by decide +kernel), List.mem_of_getElem? (i := 316) (by decide +kernel)⟩
theorem lw_p1 : lw_okq (⟨"HotAisle$Aisle", "feed", "(II)V"⟩, 9) := ⟨⟨by decide +kernel, by decide +kernel⟩, List.mem_of_getElem? (i := 19) (by decide +kernel), List.mem_of_getElem? (i := 320) (by decide +kernel), List.mem_of_getElem? (i := 321) (by decide +kernel)⟩
theorem lw_p2 : lw_okq (⟨"HotAisle$Aisle", "blowVessels", "()V"⟩, 9) := ⟨⟨by decide +kernel, by decide +kernel⟩, List.mem_of_getElem? (i := 19) (by decide +kernel), List.mem_of_getElem? (i := 328) (by decide +kernel), List.mem_of_getElem? (i := 329) (by decide +kernel)⟩
theorem lw_p3 : lw_okq (⟨"HotAisle$Aisle", "blowParts", "(LHotAisle$Vessel;)V"⟩, 9) := ⟨⟨by decide +kernel, by decide +kernel⟩, List.mem_of_getElem? (i := 19) (by decide +kernel), List.mem_of_getElem? (i := 332) (by decide +kernel), List.mem_of_getElem? (i := 333) (by decide +kernel)⟩
theorem lw_p4 : lw_okq (⟨"HotAisle$Aisle", "burn", "(LHotAisle$Vessel;II)V"⟩, 9) := ⟨⟨by decide +kernel, by decide +kernel⟩, List.mem_of_getElem? (i := 19) (by decide +kernel), List.mem_of_getElem? (i := 344) (by decide +kernel), List.mem_of_getElem? (i := 345) (by decide +kernel)⟩
theorem lw_p5 : lw_okq (⟨"HotAisle$Aisle", "castAnode", "()V"⟩, 9) := ⟨⟨by decide +kernel, by decide +kernel⟩, List.mem_of_getElem? (i := 19) (by decide +kernel), List.mem_of_getElem? (i := 355) (by decide +kernel), List.mem_of_getElem? (i := 356) (by decide +kernel)⟩
theorem lw_p6 : lw_okq (⟨"HotAisle$Aisle", "work", "(LHotAisle$Crane;LHotAisle$Crane;)V"⟩, 9) := ⟨⟨by decide +kernel, by decide +kernel⟩, List.mem_of_getElem? (i := 19) (by decide +kernel), List.mem_of_getElem? (i := 359) (by decide +kernel), List.mem_of_getElem? (i := 360) (by decide +kernel)⟩
theorem lw_p7 : lw_okq (⟨"HotAisle$Aisle", "finishFirst", "(LHotAisle$Crane;)V"⟩, 9) := ⟨⟨by decide +kernel, by decide +kernel⟩, List.mem_of_getElem? (i := 19) (by decide +kernel), List.mem_of_getElem? (i := 371) (by decide +kernel), List.mem_of_getElem? (i := 372) (by decide +kernel)⟩
theorem lw_p8 : lw_okq (⟨"HotAisle$Aisle", "stepOrWait", "(LHotAisle$Crane;LHotAisle$Crane;)V"⟩, 9) := ⟨⟨by decide +kernel, by decide +kernel⟩, List.mem_of_getElem? (i := 19) (by decide +kernel), List.mem_of_getElem? (i := 381) (by decide +kernel), List.mem_of_getElem? (i := 382) (by decide +kernel)⟩
theorem lw_p9 : lw_okq (⟨"HotAisle$Aisle", "isCarriedOut", "(LHotAisle$Crane;)Z"⟩, 9) := ⟨⟨by decide +kernel, by decide +kernel⟩, List.mem_of_getElem? (i := 19) (by decide +kernel), List.mem_of_getElem? (i := 397) (by decide +kernel), List.mem_of_getElem? (i := 398) (by decide +kernel)⟩
theorem lw_p10 : lw_okq (⟨"HotAisle$Aisle", "take", "(LHotAisle$Crane;)Z"⟩, 9) := ⟨⟨by decide +kernel, by decide +kernel⟩, List.mem_of_getElem? (i := 19) (by decide +kernel), List.mem_of_getElem? (i := 401) (by decide +kernel), List.mem_of_getElem? (i := 402) (by decide +kernel)⟩
theorem lw_p11 : lw_okq (⟨"HotAisle$Aisle", "set", "(LHotAisle$Ladle;)Z"⟩, 9) := ⟨⟨by decide +kernel, by decide +kernel⟩, List.mem_of_getElem? (i := 19) (by decide +kernel), List.mem_of_getElem? (i := 413) (by decide +kernel), List.mem_of_getElem? (i := 414) (by decide +kernel)⟩
theorem lw_p12 : lw_okq (⟨"HotAisle$Aisle", "tap", "(LHotAisle$Ladle;)Z"⟩, 9) := ⟨⟨by decide +kernel, by decide +kernel⟩, List.mem_of_getElem? (i := 19) (by decide +kernel), List.mem_of_getElem? (i := 421) (by decide +kernel), List.mem_of_getElem? (i := 422) (by decide +kernel)⟩
theorem lw_p13 : lw_okq (⟨"HotAisle$Aisle", "tapStuff", "(LHotAisle$Ladle;II)V"⟩, 9) := ⟨⟨by decide +kernel, by decide +kernel⟩, List.mem_of_getElem? (i := 19) (by decide +kernel), List.mem_of_getElem? (i := 430) (by decide +kernel), List.mem_of_getElem? (i := 431) (by decide +kernel)⟩
theorem lw_p14 : lw_okq (⟨"HotAisle$Aisle", "pour", "(LHotAisle$Ladle;LHotAisle$Vessel;)Z"⟩, 9) := ⟨⟨by decide +kernel, by decide +kernel⟩, List.mem_of_getElem? (i := 19) (by decide +kernel), List.mem_of_getElem? (i := 434) (by decide +kernel), List.mem_of_getElem? (i := 435) (by decide +kernel)⟩
theorem lw_p15 : lw_okq (⟨"HotAisle$Aisle", "clean", "(LHotAisle$Ladle;)Z"⟩, 9) := ⟨⟨by decide +kernel, by decide +kernel⟩, List.mem_of_getElem? (i := 19) (by decide +kernel), List.mem_of_getElem? (i := 478) (by decide +kernel), List.mem_of_getElem? (i := 479) (by decide +kernel)⟩
def lw_privs_1 : List (MethodName × Nat) := [(⟨"HotAisle$Aisle", "feedFurnace", "()V"⟩, 9), (⟨"HotAisle$Aisle", "feed", "(II)V"⟩, 9), (⟨"HotAisle$Aisle", "blowVessels", "()V"⟩, 9), (⟨"HotAisle$Aisle", "blowParts", "(LHotAisle$Vessel;)V"⟩, 9), (⟨"HotAisle$Aisle", "burn", "(LHotAisle$Vessel;II)V"⟩, 9), (⟨"HotAisle$Aisle", "castAnode", "()V"⟩, 9), (⟨"HotAisle$Aisle", "work", "(LHotAisle$Crane;LHotAisle$Crane;)V"⟩, 9), (⟨"HotAisle$Aisle", "finishFirst", "(LHotAisle$Crane;)V"⟩, 9), (⟨"HotAisle$Aisle", "stepOrWait", "(LHotAisle$Crane;LHotAisle$Crane;)V"⟩, 9), (⟨"HotAisle$Aisle", "isCarriedOut", "(LHotAisle$Crane;)Z"⟩, 9), (⟨"HotAisle$Aisle", "take", "(LHotAisle$Crane;)Z"⟩, 9), (⟨"HotAisle$Aisle", "set", "(LHotAisle$Ladle;)Z"⟩, 9), (⟨"HotAisle$Aisle", "tap", "(LHotAisle$Ladle;)Z"⟩, 9), (⟨"HotAisle$Aisle", "tapStuff", "(LHotAisle$Ladle;II)V"⟩, 9), (⟨"HotAisle$Aisle", "pour", "(LHotAisle$Ladle;LHotAisle$Vessel;)Z"⟩, 9), (⟨"HotAisle$Aisle", "clean", "(LHotAisle$Ladle;)Z"⟩, 9)]
theorem lw_r1 : ∀ q ∈ lw_privs_1, lw_okq q := List.forall_mem_cons.mpr ⟨lw_p0, List.forall_mem_cons.mpr ⟨lw_p1, List.forall_mem_cons.mpr ⟨lw_p2, List.forall_mem_cons.mpr ⟨lw_p3, List.forall_mem_cons.mpr ⟨lw_p4, List.forall_mem_cons.mpr ⟨lw_p5, List.forall_mem_cons.mpr ⟨lw_p6, List.forall_mem_cons.mpr ⟨lw_p7, List.forall_mem_cons.mpr ⟨lw_p8, List.forall_mem_cons.mpr ⟨lw_p9, List.forall_mem_cons.mpr ⟨lw_p10, List.forall_mem_cons.mpr ⟨lw_p11, List.forall_mem_cons.mpr ⟨lw_p12, List.forall_mem_cons.mpr ⟨lw_p13, List.forall_mem_cons.mpr ⟨lw_p14, List.forall_mem_cons.mpr ⟨lw_p15, fun _ h => absurd h List.not_mem_nil⟩⟩⟩⟩⟩⟩⟩⟩⟩⟩⟩⟩⟩⟩⟩⟩
theorem lw_p16 : lw_okq (⟨"HotAisle$Aisle", "inVessels", "(I)I"⟩, 9) := ⟨⟨by decide +kernel, by decide +kernel⟩, List.mem_of_getElem? (i := 19) (by decide +kernel), List.mem_of_getElem? (i := 528) (by decide +kernel), List.mem_of_getElem? (i := 529) (by decide +kernel)⟩
theorem lw_p17 : lw_okq (⟨"HotAisle$Aisle", "inLadles", "(I)I"⟩, 9) := ⟨⟨by decide +kernel, by decide +kernel⟩, List.mem_of_getElem? (i := 19) (by decide +kernel), List.mem_of_getElem? (i := 532) (by decide +kernel), List.mem_of_getElem? (i := 533) (by decide +kernel)⟩
theorem lw_p18 : lw_okq (⟨"HotAisle$Aisle", "inSkulls", "(I)I"⟩, 9) := ⟨⟨by decide +kernel, by decide +kernel⟩, List.mem_of_getElem? (i := 19) (by decide +kernel), List.mem_of_getElem? (i := 536) (by decide +kernel), List.mem_of_getElem? (i := 537) (by decide +kernel)⟩
theorem lw_p19 : lw_okq (⟨"HotAisleModel", "sum", "(I)I"⟩, 3) := ⟨⟨by decide +kernel, by decide +kernel⟩, List.mem_of_getElem? (i := 588) (by decide +kernel), List.mem_of_getElem? (i := 619) (by decide +kernel), List.mem_of_getElem? (i := 620) (by decide +kernel)⟩
theorem lw_p20 : lw_okq (⟨"HotAisleModel", "minute", "()V"⟩, 3) := ⟨⟨by decide +kernel, by decide +kernel⟩, List.mem_of_getElem? (i := 588) (by decide +kernel), List.mem_of_getElem? (i := 639) (by decide +kernel), List.mem_of_getElem? (i := 640) (by decide +kernel)⟩
theorem lw_p21 : lw_okq (⟨"HotAisleModel", "feeds", "()V"⟩, 3) := ⟨⟨by decide +kernel, by decide +kernel⟩, List.mem_of_getElem? (i := 588) (by decide +kernel), List.mem_of_getElem? (i := 643) (by decide +kernel), List.mem_of_getElem? (i := 644) (by decide +kernel)⟩
theorem lw_p22 : lw_okq (⟨"HotAisleModel", "blows", "(I)V"⟩, 3) := ⟨⟨by decide +kernel, by decide +kernel⟩, List.mem_of_getElem? (i := 588) (by decide +kernel), List.mem_of_getElem? (i := 647) (by decide +kernel), List.mem_of_getElem? (i := 648) (by decide +kernel)⟩
theorem lw_p23 : lw_okq (⟨"HotAisleModel", "goes", "(I)V"⟩, 3) := ⟨⟨by decide +kernel, by decide +kernel⟩, List.mem_of_getElem? (i := 588) (by decide +kernel), List.mem_of_getElem? (i := 651) (by decide +kernel), List.mem_of_getElem? (i := 652) (by decide +kernel)⟩
theorem lw_p24 : lw_okq (⟨"HotAisleModel", "finishes", "(I)V"⟩, 3) := ⟨⟨by decide +kernel, by decide +kernel⟩, List.mem_of_getElem? (i := 588) (by decide +kernel), List.mem_of_getElem? (i := 655) (by decide +kernel), List.mem_of_getElem? (i := 656) (by decide +kernel)⟩
theorem lw_p25 : lw_okq (⟨"HotAisleModel", "does", "(II)Z"⟩, 3) := ⟨⟨by decide +kernel, by decide +kernel⟩, List.mem_of_getElem? (i := 588) (by decide +kernel), List.mem_of_getElem? (i := 659) (by decide +kernel), List.mem_of_getElem? (i := 660) (by decide +kernel)⟩
theorem lw_p26 : lw_okq (⟨"HotAisleModel", "takes", "(II)Z"⟩, 3) := ⟨⟨by decide +kernel, by decide +kernel⟩, List.mem_of_getElem? (i := 588) (by decide +kernel), List.mem_of_getElem? (i := 663) (by decide +kernel), List.mem_of_getElem? (i := 664) (by decide +kernel)⟩
theorem lw_p27 : lw_okq (⟨"HotAisleModel", "standsAt", "(I)I"⟩, 3) := ⟨⟨by decide +kernel, by decide +kernel⟩, List.mem_of_getElem? (i := 588) (by decide +kernel), List.mem_of_getElem? (i := 667) (by decide +kernel), List.mem_of_getElem? (i := 668) (by decide +kernel)⟩
theorem lw_p28 : lw_okq (⟨"HotAisleModel", "sets", "(II)Z"⟩, 3) := ⟨⟨by decide +kernel, by decide +kernel⟩, List.mem_of_getElem? (i := 588) (by decide +kernel), List.mem_of_getElem? (i := 671) (by decide +kernel), List.mem_of_getElem? (i := 672) (by decide +kernel)⟩
theorem lw_p29 : lw_okq (⟨"HotAisleModel", "taps", "(II)Z"⟩, 3) := ⟨⟨by decide +kernel, by decide +kernel⟩, List.mem_of_getElem? (i := 588) (by decide +kernel), List.mem_of_getElem? (i := 681) (by decide +kernel), List.mem_of_getElem? (i := 682) (by decide +kernel)⟩
theorem lw_p30 : lw_okq (⟨"HotAisleModel", "room", "(I)I"⟩, 3) := ⟨⟨by decide +kernel, by decide +kernel⟩, List.mem_of_getElem? (i := 588) (by decide +kernel), List.mem_of_getElem? (i := 685) (by decide +kernel), List.mem_of_getElem? (i := 686) (by decide +kernel)⟩
theorem lw_p31 : lw_okq (⟨"HotAisleModel", "moves", "(IIII)V"⟩, 3) := ⟨⟨by decide +kernel, by decide +kernel⟩, List.mem_of_getElem? (i := 588) (by decide +kernel), List.mem_of_getElem? (i := 689) (by decide +kernel), List.mem_of_getElem? (i := 690) (by decide +kernel)⟩
def lw_privs_2 : List (MethodName × Nat) := [(⟨"HotAisle$Aisle", "inVessels", "(I)I"⟩, 9), (⟨"HotAisle$Aisle", "inLadles", "(I)I"⟩, 9), (⟨"HotAisle$Aisle", "inSkulls", "(I)I"⟩, 9), (⟨"HotAisleModel", "sum", "(I)I"⟩, 3), (⟨"HotAisleModel", "minute", "()V"⟩, 3), (⟨"HotAisleModel", "feeds", "()V"⟩, 3), (⟨"HotAisleModel", "blows", "(I)V"⟩, 3), (⟨"HotAisleModel", "goes", "(I)V"⟩, 3), (⟨"HotAisleModel", "finishes", "(I)V"⟩, 3), (⟨"HotAisleModel", "does", "(II)Z"⟩, 3), (⟨"HotAisleModel", "takes", "(II)Z"⟩, 3), (⟨"HotAisleModel", "standsAt", "(I)I"⟩, 3), (⟨"HotAisleModel", "sets", "(II)Z"⟩, 3), (⟨"HotAisleModel", "taps", "(II)Z"⟩, 3), (⟨"HotAisleModel", "room", "(I)I"⟩, 3), (⟨"HotAisleModel", "moves", "(IIII)V"⟩, 3)]
theorem lw_r2 : ∀ q ∈ lw_privs_2, lw_okq q := List.forall_mem_cons.mpr ⟨lw_p16, List.forall_mem_cons.mpr ⟨lw_p17, List.forall_mem_cons.mpr ⟨lw_p18, List.forall_mem_cons.mpr ⟨lw_p19, List.forall_mem_cons.mpr ⟨lw_p20, List.forall_mem_cons.mpr ⟨lw_p21, List.forall_mem_cons.mpr ⟨lw_p22, List.forall_mem_cons.mpr ⟨lw_p23, List.forall_mem_cons.mpr ⟨lw_p24, List.forall_mem_cons.mpr ⟨lw_p25, List.forall_mem_cons.mpr ⟨lw_p26, List.forall_mem_cons.mpr ⟨lw_p27, List.forall_mem_cons.mpr ⟨lw_p28, List.forall_mem_cons.mpr ⟨lw_p29, List.forall_mem_cons.mpr ⟨lw_p30, List.forall_mem_cons.mpr ⟨lw_p31, fun _ h => absurd h List.not_mem_nil⟩⟩⟩⟩⟩⟩⟩⟩⟩⟩⟩⟩⟩⟩⟩⟩
theorem lw_p32 : lw_okq (⟨"HotAisleModel", "pours", "(II)Z"⟩, 3) := ⟨⟨by decide +kernel, by decide +kernel⟩, List.mem_of_getElem? (i := 588) (by decide +kernel), List.mem_of_getElem? (i := 693) (by decide +kernel), List.mem_of_getElem? (i := 694) (by decide +kernel)⟩
theorem lw_p33 : lw_okq (⟨"HotAisleModel", "skulls", "(II)V"⟩, 3) := ⟨⟨by decide +kernel, by decide +kernel⟩, List.mem_of_getElem? (i := 588) (by decide +kernel), List.mem_of_getElem? (i := 697) (by decide +kernel), List.mem_of_getElem? (i := 698) (by decide +kernel)⟩
theorem lw_p34 : lw_okq (⟨"HotAisleModel", "skims", "(II)Z"⟩, 3) := ⟨⟨by decide +kernel, by decide +kernel⟩, List.mem_of_getElem? (i := 588) (by decide +kernel), List.mem_of_getElem? (i := 701) (by decide +kernel), List.mem_of_getElem? (i := 702) (by decide +kernel)⟩
theorem lw_p35 : lw_okq (⟨"HotAisleModel", "draws", "(II)Z"⟩, 3) := ⟨⟨by decide +kernel, by decide +kernel⟩, List.mem_of_getElem? (i := 588) (by decide +kernel), List.mem_of_getElem? (i := 705) (by decide +kernel), List.mem_of_getElem? (i := 706) (by decide +kernel)⟩
theorem lw_p36 : lw_okq (⟨"HotAisleModel", "cleans", "(II)Z"⟩, 3) := ⟨⟨by decide +kernel, by decide +kernel⟩, List.mem_of_getElem? (i := 588) (by decide +kernel), List.mem_of_getElem? (i := 709) (by decide +kernel), List.mem_of_getElem? (i := 710) (by decide +kernel)⟩
theorem lw_p37 : lw_okq (⟨"HotAisleModel", "several", "(III)I"⟩, 3) := ⟨⟨by decide +kernel, by decide +kernel⟩, List.mem_of_getElem? (i := 588) (by decide +kernel), List.mem_of_getElem? (i := 733) (by decide +kernel), List.mem_of_getElem? (i := 734) (by decide +kernel)⟩
def lw_privs_3 : List (MethodName × Nat) := [(⟨"HotAisleModel", "pours", "(II)Z"⟩, 3), (⟨"HotAisleModel", "skulls", "(II)V"⟩, 3), (⟨"HotAisleModel", "skims", "(II)Z"⟩, 3), (⟨"HotAisleModel", "draws", "(II)Z"⟩, 3), (⟨"HotAisleModel", "cleans", "(II)Z"⟩, 3), (⟨"HotAisleModel", "several", "(III)I"⟩, 3)]
theorem lw_r3 : ∀ q ∈ lw_privs_3, lw_okq q := List.forall_mem_cons.mpr ⟨lw_p32, List.forall_mem_cons.mpr ⟨lw_p33, List.forall_mem_cons.mpr ⟨lw_p34, List.forall_mem_cons.mpr ⟨lw_p35, List.forall_mem_cons.mpr ⟨lw_p36, List.forall_mem_cons.mpr ⟨lw_p37, fun _ h => absurd h List.not_mem_nil⟩⟩⟩⟩⟩⟩
def lw_privs : List (MethodName × Nat) := lw_privs_1 ++ (lw_privs_2 ++ (lw_privs_3))
def lw_tbl : List Cond := k2_sels lw_privs ++ tables_1
theorem lw_privs_ok : ∀ q ∈ lw_privs, lw_okq q := by
  show ∀ q ∈ lw_privs_1 ++ (lw_privs_2 ++ (lw_privs_3)), lw_okq q
  exact List.forall_mem_append.mpr ⟨lw_r1, List.forall_mem_append.mpr ⟨lw_r2, lw_r3⟩⟩
-- ===== end of PART A; then your names; then what follows =====
end
section
/-! the words of the tables: all good ones of lw_tbl, each by its place -/
def bw : List Cond := lw_tbl.filter goodWord
theorem bw_in {w : Cond} (k : Nat) (h : lw_tbl[k]? = some w) (hg : goodWord w = true) : w ∈ bw := List.mem_filter.mpr ⟨List.mem_of_getElem? h, hg⟩
theorem bw_tbl {w : Cond} (h : w ∈ bw) : w ∈ lw_tbl := (List.mem_filter.mp h).1
theorem bw_good {w : Cond} (h : w ∈ bw) : goodWord w = true := (List.mem_filter.mp h).2
theorem m_0 : (Cond.selects "HotAisle$Aisle" ⟨"HotAisle$Aisle", "feedFurnace", "()V"⟩ ⟨"HotAisle$Aisle", "feedFurnace", "()V"⟩) ∈ bw := bw_in 0 (by decide +kernel) rfl
theorem m_1 : (Cond.selects "HotAisle$Aisle" ⟨"HotAisle$Aisle", "feed", "(II)V"⟩ ⟨"HotAisle$Aisle", "feed", "(II)V"⟩) ∈ bw := bw_in 1 (by decide +kernel) rfl
theorem m_2 : (Cond.selects "HotAisle$Aisle" ⟨"HotAisle$Aisle", "blowVessels", "()V"⟩ ⟨"HotAisle$Aisle", "blowVessels", "()V"⟩) ∈ bw := bw_in 2 (by decide +kernel) rfl
theorem m_3 : (Cond.selects "HotAisle$Aisle" ⟨"HotAisle$Aisle", "blowParts", "(LHotAisle$Vessel;)V"⟩ ⟨"HotAisle$Aisle", "blowParts", "(LHotAisle$Vessel;)V"⟩) ∈ bw := bw_in 3 (by decide +kernel) rfl
theorem m_4 : (Cond.selects "HotAisle$Aisle" ⟨"HotAisle$Aisle", "burn", "(LHotAisle$Vessel;II)V"⟩ ⟨"HotAisle$Aisle", "burn", "(LHotAisle$Vessel;II)V"⟩) ∈ bw := bw_in 4 (by decide +kernel) rfl
theorem m_5 : (Cond.selects "HotAisle$Aisle" ⟨"HotAisle$Aisle", "castAnode", "()V"⟩ ⟨"HotAisle$Aisle", "castAnode", "()V"⟩) ∈ bw := bw_in 5 (by decide +kernel) rfl
theorem m_6 : (Cond.selects "HotAisle$Aisle" ⟨"HotAisle$Aisle", "work", "(LHotAisle$Crane;LHotAisle$Crane;)V"⟩ ⟨"HotAisle$Aisle", "work", "(LHotAisle$Crane;LHotAisle$Crane;)V"⟩) ∈ bw := bw_in 6 (by decide +kernel) rfl
theorem m_7 : (Cond.selects "HotAisle$Aisle" ⟨"HotAisle$Aisle", "finishFirst", "(LHotAisle$Crane;)V"⟩ ⟨"HotAisle$Aisle", "finishFirst", "(LHotAisle$Crane;)V"⟩) ∈ bw := bw_in 7 (by decide +kernel) rfl
theorem m_8 : (Cond.selects "HotAisle$Aisle" ⟨"HotAisle$Aisle", "stepOrWait", "(LHotAisle$Crane;LHotAisle$Crane;)V"⟩ ⟨"HotAisle$Aisle", "stepOrWait", "(LHotAisle$Crane;LHotAisle$Crane;)V"⟩) ∈ bw := bw_in 8 (by decide +kernel) rfl
theorem m_9 : (Cond.selects "HotAisle$Aisle" ⟨"HotAisle$Aisle", "isCarriedOut", "(LHotAisle$Crane;)Z"⟩ ⟨"HotAisle$Aisle", "isCarriedOut", "(LHotAisle$Crane;)Z"⟩) ∈ bw := bw_in 9 (by decide +kernel) rfl
theorem m_10 : (Cond.selects "HotAisle$Aisle" ⟨"HotAisle$Aisle", "take", "(LHotAisle$Crane;)Z"⟩ ⟨"HotAisle$Aisle", "take", "(LHotAisle$Crane;)Z"⟩) ∈ bw := bw_in 10 (by decide +kernel) rfl
theorem m_11 : (Cond.selects "HotAisle$Aisle" ⟨"HotAisle$Aisle", "set", "(LHotAisle$Ladle;)Z"⟩ ⟨"HotAisle$Aisle", "set", "(LHotAisle$Ladle;)Z"⟩) ∈ bw := bw_in 11 (by decide +kernel) rfl
theorem m_12 : (Cond.selects "HotAisle$Aisle" ⟨"HotAisle$Aisle", "tap", "(LHotAisle$Ladle;)Z"⟩ ⟨"HotAisle$Aisle", "tap", "(LHotAisle$Ladle;)Z"⟩) ∈ bw := bw_in 12 (by decide +kernel) rfl
theorem m_13 : (Cond.selects "HotAisle$Aisle" ⟨"HotAisle$Aisle", "tapStuff", "(LHotAisle$Ladle;II)V"⟩ ⟨"HotAisle$Aisle", "tapStuff", "(LHotAisle$Ladle;II)V"⟩) ∈ bw := bw_in 13 (by decide +kernel) rfl
theorem m_14 : (Cond.selects "HotAisle$Aisle" ⟨"HotAisle$Aisle", "pour", "(LHotAisle$Ladle;LHotAisle$Vessel;)Z"⟩ ⟨"HotAisle$Aisle", "pour", "(LHotAisle$Ladle;LHotAisle$Vessel;)Z"⟩) ∈ bw := bw_in 14 (by decide +kernel) rfl
theorem m_15 : (Cond.selects "HotAisle$Aisle" ⟨"HotAisle$Aisle", "clean", "(LHotAisle$Ladle;)Z"⟩ ⟨"HotAisle$Aisle", "clean", "(LHotAisle$Ladle;)Z"⟩) ∈ bw := bw_in 15 (by decide +kernel) rfl
theorem m_16 : (Cond.selects "HotAisle$Aisle" ⟨"HotAisle$Aisle", "inVessels", "(I)I"⟩ ⟨"HotAisle$Aisle", "inVessels", "(I)I"⟩) ∈ bw := bw_in 16 (by decide +kernel) rfl
theorem m_17 : (Cond.selects "HotAisle$Aisle" ⟨"HotAisle$Aisle", "inLadles", "(I)I"⟩ ⟨"HotAisle$Aisle", "inLadles", "(I)I"⟩) ∈ bw := bw_in 17 (by decide +kernel) rfl
theorem m_18 : (Cond.selects "HotAisle$Aisle" ⟨"HotAisle$Aisle", "inSkulls", "(I)I"⟩ ⟨"HotAisle$Aisle", "inSkulls", "(I)I"⟩) ∈ bw := bw_in 18 (by decide +kernel) rfl
theorem m_19 : (Cond.selects "HotAisleModel" ⟨"HotAisleModel", "sum", "(I)I"⟩ ⟨"HotAisleModel", "sum", "(I)I"⟩) ∈ bw := bw_in 19 (by decide +kernel) rfl
theorem m_20 : (Cond.selects "HotAisleModel" ⟨"HotAisleModel", "minute", "()V"⟩ ⟨"HotAisleModel", "minute", "()V"⟩) ∈ bw := bw_in 20 (by decide +kernel) rfl
theorem m_21 : (Cond.selects "HotAisleModel" ⟨"HotAisleModel", "feeds", "()V"⟩ ⟨"HotAisleModel", "feeds", "()V"⟩) ∈ bw := bw_in 21 (by decide +kernel) rfl
theorem m_22 : (Cond.selects "HotAisleModel" ⟨"HotAisleModel", "blows", "(I)V"⟩ ⟨"HotAisleModel", "blows", "(I)V"⟩) ∈ bw := bw_in 22 (by decide +kernel) rfl
theorem m_23 : (Cond.selects "HotAisleModel" ⟨"HotAisleModel", "goes", "(I)V"⟩ ⟨"HotAisleModel", "goes", "(I)V"⟩) ∈ bw := bw_in 23 (by decide +kernel) rfl
theorem m_24 : (Cond.selects "HotAisleModel" ⟨"HotAisleModel", "finishes", "(I)V"⟩ ⟨"HotAisleModel", "finishes", "(I)V"⟩) ∈ bw := bw_in 24 (by decide +kernel) rfl
theorem m_25 : (Cond.selects "HotAisleModel" ⟨"HotAisleModel", "does", "(II)Z"⟩ ⟨"HotAisleModel", "does", "(II)Z"⟩) ∈ bw := bw_in 25 (by decide +kernel) rfl
theorem m_26 : (Cond.selects "HotAisleModel" ⟨"HotAisleModel", "takes", "(II)Z"⟩ ⟨"HotAisleModel", "takes", "(II)Z"⟩) ∈ bw := bw_in 26 (by decide +kernel) rfl
theorem m_27 : (Cond.selects "HotAisleModel" ⟨"HotAisleModel", "standsAt", "(I)I"⟩ ⟨"HotAisleModel", "standsAt", "(I)I"⟩) ∈ bw := bw_in 27 (by decide +kernel) rfl
theorem m_28 : (Cond.selects "HotAisleModel" ⟨"HotAisleModel", "sets", "(II)Z"⟩ ⟨"HotAisleModel", "sets", "(II)Z"⟩) ∈ bw := bw_in 28 (by decide +kernel) rfl
theorem m_29 : (Cond.selects "HotAisleModel" ⟨"HotAisleModel", "taps", "(II)Z"⟩ ⟨"HotAisleModel", "taps", "(II)Z"⟩) ∈ bw := bw_in 29 (by decide +kernel) rfl
theorem m_30 : (Cond.selects "HotAisleModel" ⟨"HotAisleModel", "room", "(I)I"⟩ ⟨"HotAisleModel", "room", "(I)I"⟩) ∈ bw := bw_in 30 (by decide +kernel) rfl
theorem m_31 : (Cond.selects "HotAisleModel" ⟨"HotAisleModel", "moves", "(IIII)V"⟩ ⟨"HotAisleModel", "moves", "(IIII)V"⟩) ∈ bw := bw_in 31 (by decide +kernel) rfl
theorem m_32 : (Cond.selects "HotAisleModel" ⟨"HotAisleModel", "pours", "(II)Z"⟩ ⟨"HotAisleModel", "pours", "(II)Z"⟩) ∈ bw := bw_in 32 (by decide +kernel) rfl
theorem m_33 : (Cond.selects "HotAisleModel" ⟨"HotAisleModel", "skulls", "(II)V"⟩ ⟨"HotAisleModel", "skulls", "(II)V"⟩) ∈ bw := bw_in 33 (by decide +kernel) rfl
theorem m_34 : (Cond.selects "HotAisleModel" ⟨"HotAisleModel", "skims", "(II)Z"⟩ ⟨"HotAisleModel", "skims", "(II)Z"⟩) ∈ bw := bw_in 34 (by decide +kernel) rfl
theorem m_35 : (Cond.selects "HotAisleModel" ⟨"HotAisleModel", "draws", "(II)Z"⟩ ⟨"HotAisleModel", "draws", "(II)Z"⟩) ∈ bw := bw_in 35 (by decide +kernel) rfl
theorem m_36 : (Cond.selects "HotAisleModel" ⟨"HotAisleModel", "cleans", "(II)Z"⟩ ⟨"HotAisleModel", "cleans", "(II)Z"⟩) ∈ bw := bw_in 36 (by decide +kernel) rfl
theorem m_37 : (Cond.selects "HotAisleModel" ⟨"HotAisleModel", "several", "(III)I"⟩ ⟨"HotAisleModel", "several", "(III)I"⟩) ∈ bw := bw_in 37 (by decide +kernel) rfl
theorem m_38 : (Cond.initialized "HotAisleLaw") ∈ bw := bw_in 38 (by decide +kernel) rfl
theorem m_39 : (Cond.initialized "HotAisle") ∈ bw := bw_in 39 (by decide +kernel) rfl
theorem m_40 : (Cond.initialized "HotAisle$Aisle") ∈ bw := bw_in 40 (by decide +kernel) rfl
theorem m_41 : (Cond.initialized "HotAisle$Stuff") ∈ bw := bw_in 41 (by decide +kernel) rfl
theorem m_42 : (Cond.initialized "HotAisle$Crane") ∈ bw := bw_in 42 (by decide +kernel) rfl
theorem m_43 : (Cond.initialized "HotAisle$Books") ∈ bw := bw_in 43 (by decide +kernel) rfl
theorem m_44 : (Cond.initialized "HotAisle$Vessel") ∈ bw := bw_in 44 (by decide +kernel) rfl
theorem m_45 : (Cond.initialized "HotAisle$Ladle") ∈ bw := bw_in 45 (by decide +kernel) rfl
theorem m_46 : (Cond.initialized "HotAisleModel") ∈ bw := bw_in 46 (by decide +kernel) rfl
theorem m_47 : (Cond.initialized "java/lang/Math") ∈ bw := bw_in 47 (by decide +kernel) rfl
theorem m_48 : (Cond.classLink "HotAisleLaw" 7 "HotAisle") ∈ bw := bw_in 48 (by decide +kernel) rfl
theorem m_49 : (Cond.instantiable "HotAisle" 3) ∈ bw := bw_in 49 (by decide +kernel) rfl
theorem m_50 : (Cond.methodLink "HotAisleLaw" 9 ⟨"HotAisle", "<init>", "()V"⟩) ∈ bw := bw_in 50 (by decide +kernel) rfl
theorem m_51 : (Cond.instanceMethod ⟨"HotAisle", "<init>", "()V"⟩) ∈ bw := bw_in 51 (by decide +kernel) rfl
theorem m_52 : (Cond.code ⟨"HotAisle", "<init>", "()V"⟩ prog_1_method_1_code 2 (none : Option Jvm.ClassFile.FieldType)) ∈ bw := bw_in 52 (by decide +kernel) rfl
theorem m_53 : (Cond.methodLink "HotAisle" 1 ⟨"java/lang/Object", "<init>", "()V"⟩) ∈ bw := bw_in 53 (by decide +kernel) rfl
theorem m_54 : (Cond.instanceMethod ⟨"java/lang/Object", "<init>", "()V"⟩) ∈ bw := bw_in 54 (by decide +kernel) rfl
theorem m_55 : (Cond.code ⟨"java/lang/Object", "<init>", "()V"⟩ object_method_1_code 1 (none : Option Jvm.ClassFile.FieldType)) ∈ bw := bw_in 55 (by decide +kernel) rfl
theorem m_56 : (Cond.classLink "HotAisle" 7 "HotAisle$Aisle") ∈ bw := bw_in 56 (by decide +kernel) rfl
theorem m_57 : (Cond.instantiable "HotAisle$Aisle" 9) ∈ bw := bw_in 57 (by decide +kernel) rfl
theorem m_58 : (Cond.methodLink "HotAisle" 9 ⟨"HotAisle$Aisle", "<init>", "()V"⟩) ∈ bw := bw_in 58 (by decide +kernel) rfl
theorem m_59 : (Cond.instanceMethod ⟨"HotAisle$Aisle", "<init>", "()V"⟩) ∈ bw := bw_in 59 (by decide +kernel) rfl
theorem m_60 : (Cond.code ⟨"HotAisle$Aisle", "<init>", "()V"⟩ prog_2_method_1_code 2 (none : Option Jvm.ClassFile.FieldType)) ∈ bw := bw_in 60 (by decide +kernel) rfl
theorem m_61 : (Cond.methodLink "HotAisle$Aisle" 3 ⟨"java/lang/Object", "<init>", "()V"⟩) ∈ bw := bw_in 61 (by decide +kernel) rfl
theorem m_62 : (Cond.classLink "HotAisle$Aisle" 9 "HotAisle$Stuff") ∈ bw := bw_in 62 (by decide +kernel) rfl
theorem m_63 : (Cond.instantiable "HotAisle$Stuff" 4) ∈ bw := bw_in 63 (by decide +kernel) rfl
theorem m_65 : (Cond.instanceMethod ⟨"HotAisle$Stuff", "<init>", "()V"⟩) ∈ bw := bw_in 65 (by decide +kernel) rfl
theorem m_66 : (Cond.code ⟨"HotAisle$Stuff", "<init>", "()V"⟩ prog_6_method_1_code 1 (none : Option Jvm.ClassFile.FieldType)) ∈ bw := bw_in 66 (by decide +kernel) rfl
theorem m_67 : (Cond.methodLink "HotAisle$Stuff" 3 ⟨"java/lang/Object", "<init>", "()V"⟩) ∈ bw := bw_in 67 (by decide +kernel) rfl
theorem m_68 : (Cond.fieldLink "HotAisle$Stuff" 9 "HotAisle$Stuff" "copper" "I") ∈ bw := bw_in 68 (by decide +kernel) rfl
theorem m_69 : (Cond.fieldLink "HotAisle$Vessel" 51 "HotAisle$Stuff" "copper" "I") ∈ bw := bw_in 69 (by decide +kernel) rfl
theorem m_70 : (Cond.fieldLink "HotAisle" 59 "HotAisle$Stuff" "copper" "I") ∈ bw := bw_in 70 (by decide +kernel) rfl
theorem m_71 : (Cond.fieldLink "HotAisle$Aisle" 209 "HotAisle$Stuff" "copper" "I") ∈ bw := bw_in 71 (by decide +kernel) rfl
theorem m_72 : (Cond.fieldLink "HotAisle$Stuff" 15 "HotAisle$Stuff" "iron" "I") ∈ bw := bw_in 72 (by decide +kernel) rfl
theorem m_73 : (Cond.fieldLink "HotAisle$Aisle" 197 "HotAisle$Stuff" "iron" "I") ∈ bw := bw_in 73 (by decide +kernel) rfl
theorem m_74 : (Cond.fieldLink "HotAisle$Stuff" 18 "HotAisle$Stuff" "sulphur" "I") ∈ bw := bw_in 74 (by decide +kernel) rfl
theorem m_75 : (Cond.fieldLink "HotAisle$Books" 37 "HotAisle$Stuff" "sulphur" "I") ∈ bw := bw_in 75 (by decide +kernel) rfl
theorem m_76 : (Cond.fieldLink "HotAisle$Aisle" 206 "HotAisle$Stuff" "sulphur" "I") ∈ bw := bw_in 76 (by decide +kernel) rfl
theorem m_77 : (Cond.fieldLink "HotAisle$Stuff" 21 "HotAisle$Stuff" "slag" "I") ∈ bw := bw_in 77 (by decide +kernel) rfl
theorem m_78 : (Cond.fieldLink "HotAisle$Aisle" 222 "HotAisle$Stuff" "slag" "I") ∈ bw := bw_in 78 (by decide +kernel) rfl
theorem m_79 : (Cond.lays "HotAisle$Stuff" "HotAisle$Stuff" "copper" "I") ∈ bw := bw_in 79 (by decide +kernel) rfl
theorem m_81 : (Cond.lays "HotAisle$Stuff" "HotAisle$Stuff" "iron" "I") ∈ bw := bw_in 81 (by decide +kernel) rfl
theorem m_83 : (Cond.lays "HotAisle$Stuff" "HotAisle$Stuff" "sulphur" "I") ∈ bw := bw_in 83 (by decide +kernel) rfl
theorem m_85 : (Cond.lays "HotAisle$Stuff" "HotAisle$Stuff" "slag" "I") ∈ bw := bw_in 85 (by decide +kernel) rfl
theorem m_90 : (Cond.classLink "HotAisle$Aisle" 22 "HotAisle$Vessel") ∈ bw := bw_in 90 (by decide +kernel) rfl
theorem m_94 : (Cond.classLink "HotAisle$Aisle" 31 "HotAisle$Ladle") ∈ bw := bw_in 94 (by decide +kernel) rfl
theorem m_96 : (Cond.classLink "HotAisle$Aisle" 37 "HotAisle$Crane") ∈ bw := bw_in 96 (by decide +kernel) rfl
theorem m_97 : (Cond.instantiable "HotAisle$Crane" 6) ∈ bw := bw_in 97 (by decide +kernel) rfl
theorem m_98 : (Cond.methodLink "HotAisle$Aisle" 39 ⟨"HotAisle$Crane", "<init>", "(II)V"⟩) ∈ bw := bw_in 98 (by decide +kernel) rfl
theorem m_99 : (Cond.instanceMethod ⟨"HotAisle$Crane", "<init>", "(II)V"⟩) ∈ bw := bw_in 99 (by decide +kernel) rfl
theorem m_100 : (Cond.code ⟨"HotAisle$Crane", "<init>", "(II)V"⟩ prog_4_method_1_code 3 (none : Option Jvm.ClassFile.FieldType)) ∈ bw := bw_in 100 (by decide +kernel) rfl
theorem m_101 : (Cond.methodLink "HotAisle$Crane" 3 ⟨"java/lang/Object", "<init>", "()V"⟩) ∈ bw := bw_in 101 (by decide +kernel) rfl
theorem m_102 : (Cond.fieldLink "HotAisle$Crane" 18 "HotAisle$Crane" "number" "I") ∈ bw := bw_in 102 (by decide +kernel) rfl
theorem m_103 : (Cond.fieldLink "HotAisle$Aisle" 101 "HotAisle$Crane" "number" "I") ∈ bw := bw_in 103 (by decide +kernel) rfl
theorem m_104 : (Cond.fieldLink "HotAisle$Crane" 9 "HotAisle$Crane" "whats" "[I") ∈ bw := bw_in 104 (by decide +kernel) rfl
theorem m_105 : (Cond.fieldLink "HotAisle$Crane" 15 "HotAisle$Crane" "targets" "[I") ∈ bw := bw_in 105 (by decide +kernel) rfl
theorem m_106 : (Cond.fieldLink "HotAisle$Crane" 22 "HotAisle$Crane" "place" "I") ∈ bw := bw_in 106 (by decide +kernel) rfl
theorem m_107 : (Cond.fieldLink "HotAisle$Aisle" 256 "HotAisle$Crane" "place" "I") ∈ bw := bw_in 107 (by decide +kernel) rfl
theorem m_108 : (Cond.fieldLink "HotAisle$Crane" 25 "HotAisle$Crane" "orders" "I") ∈ bw := bw_in 108 (by decide +kernel) rfl
theorem m_109 : (Cond.fieldLink "HotAisle" 84 "HotAisle$Crane" "orders" "I") ∈ bw := bw_in 109 (by decide +kernel) rfl
theorem m_110 : (Cond.fieldLink "HotAisle$Aisle" 105 "HotAisle$Crane" "orders" "I") ∈ bw := bw_in 110 (by decide +kernel) rfl
theorem m_111 : (Cond.fieldLink "HotAisle$Crane" 32 "HotAisle$Crane" "waits" "I") ∈ bw := bw_in 111 (by decide +kernel) rfl
theorem m_112 : (Cond.fieldLink "HotAisle$Aisle" 244 "HotAisle$Crane" "waits" "I") ∈ bw := bw_in 112 (by decide +kernel) rfl
theorem m_113 : (Cond.laysFinal "HotAisle$Crane" "HotAisle$Crane" "number" "I") ∈ bw := bw_in 113 (by decide +kernel) rfl
theorem m_115 : (Cond.laysFinal "HotAisle$Crane" "HotAisle$Crane" "whats" "[I") ∈ bw := bw_in 115 (by decide +kernel) rfl
theorem m_117 : (Cond.laysFinal "HotAisle$Crane" "HotAisle$Crane" "targets" "[I") ∈ bw := bw_in 117 (by decide +kernel) rfl
theorem m_119 : (Cond.lays "HotAisle$Crane" "HotAisle$Crane" "place" "I") ∈ bw := bw_in 119 (by decide +kernel) rfl
theorem m_121 : (Cond.lays "HotAisle$Crane" "HotAisle$Crane" "orders" "I") ∈ bw := bw_in 121 (by decide +kernel) rfl
theorem m_123 : (Cond.lays "HotAisle$Crane" "HotAisle$Crane" "waits" "I") ∈ bw := bw_in 123 (by decide +kernel) rfl
theorem m_126 : (Cond.arrayClass FieldType.int) ∈ bw := bw_in 126 (by decide +kernel) rfl
theorem m_127 : (Cond.classLink "HotAisle$Aisle" 49 "HotAisle$Books") ∈ bw := bw_in 127 (by decide +kernel) rfl
theorem m_128 : (Cond.instantiable "HotAisle$Books" 12) ∈ bw := bw_in 128 (by decide +kernel) rfl
theorem m_130 : (Cond.instanceMethod ⟨"HotAisle$Books", "<init>", "()V"⟩) ∈ bw := bw_in 130 (by decide +kernel) rfl
theorem m_131 : (Cond.code ⟨"HotAisle$Books", "<init>", "()V"⟩ prog_3_method_1_code 1 (none : Option Jvm.ClassFile.FieldType)) ∈ bw := bw_in 131 (by decide +kernel) rfl
theorem m_132 : (Cond.methodLink "HotAisle$Books" 3 ⟨"java/lang/Object", "<init>", "()V"⟩) ∈ bw := bw_in 132 (by decide +kernel) rfl
theorem m_133 : (Cond.classLink "HotAisle$Books" 9 "HotAisle$Stuff") ∈ bw := bw_in 133 (by decide +kernel) rfl
theorem m_135 : (Cond.fieldLink "HotAisle$Books" 12 "HotAisle$Books" "pot" "LHotAisle$Stuff;") ∈ bw := bw_in 135 (by decide +kernel) rfl
theorem m_136 : (Cond.fieldLink "HotAisle$Aisle" 124 "HotAisle$Books" "pot" "LHotAisle$Stuff;") ∈ bw := bw_in 136 (by decide +kernel) rfl
theorem m_137 : (Cond.fieldLink "HotAisle$Books" 18 "HotAisle$Books" "givenBack" "LHotAisle$Stuff;") ∈ bw := bw_in 137 (by decide +kernel) rfl
theorem m_138 : (Cond.fieldLink "HotAisle$Aisle" 127 "HotAisle$Books" "givenBack" "LHotAisle$Stuff;") ∈ bw := bw_in 138 (by decide +kernel) rfl
theorem m_139 : (Cond.fieldLink "HotAisle$Books" 21 "HotAisle$Books" "cleanedOff" "LHotAisle$Stuff;") ∈ bw := bw_in 139 (by decide +kernel) rfl
theorem m_140 : (Cond.fieldLink "HotAisle$Aisle" 130 "HotAisle$Books" "cleanedOff" "LHotAisle$Stuff;") ∈ bw := bw_in 140 (by decide +kernel) rfl
theorem m_141 : (Cond.fieldLink "HotAisle$Books" 24 "HotAisle$Books" "cameIn" "LHotAisle$Stuff;") ∈ bw := bw_in 141 (by decide +kernel) rfl
theorem m_142 : (Cond.fieldLink "HotAisle" 66 "HotAisle$Books" "cameIn" "LHotAisle$Stuff;") ∈ bw := bw_in 142 (by decide +kernel) rfl
theorem m_143 : (Cond.fieldLink "HotAisle$Aisle" 133 "HotAisle$Books" "cameIn" "LHotAisle$Stuff;") ∈ bw := bw_in 143 (by decide +kernel) rfl
theorem m_144 : (Cond.fieldLink "HotAisle$Books" 27 "HotAisle$Books" "becameOther" "LHotAisle$Stuff;") ∈ bw := bw_in 144 (by decide +kernel) rfl
theorem m_145 : (Cond.fieldLink "HotAisle$Aisle" 136 "HotAisle$Books" "becameOther" "LHotAisle$Stuff;") ∈ bw := bw_in 145 (by decide +kernel) rfl
theorem m_146 : (Cond.fieldLink "HotAisle$Books" 30 "HotAisle$Books" "cameOfOthers" "LHotAisle$Stuff;") ∈ bw := bw_in 146 (by decide +kernel) rfl
theorem m_147 : (Cond.fieldLink "HotAisle$Aisle" 139 "HotAisle$Books" "cameOfOthers" "LHotAisle$Stuff;") ∈ bw := bw_in 147 (by decide +kernel) rfl
theorem m_148 : (Cond.fieldLink "HotAisle$Books" 33 "HotAisle$Books" "minutesPassed" "I") ∈ bw := bw_in 148 (by decide +kernel) rfl
theorem m_149 : (Cond.fieldLink "HotAisle$Aisle" 149 "HotAisle$Books" "minutesPassed" "I") ∈ bw := bw_in 149 (by decide +kernel) rfl
theorem m_150 : (Cond.fieldLink "HotAisle" 125 "HotAisle$Books" "minutesPassed" "I") ∈ bw := bw_in 150 (by decide +kernel) rfl
theorem m_151 : (Cond.fieldLink "HotAisle$Books" 40 "HotAisle$Books" "gasOfMinute" "I") ∈ bw := bw_in 151 (by decide +kernel) rfl
theorem m_152 : (Cond.fieldLink "HotAisle$Aisle" 178 "HotAisle$Books" "gasOfMinute" "I") ∈ bw := bw_in 152 (by decide +kernel) rfl
theorem m_153 : (Cond.fieldLink "HotAisle$Books" 43 "HotAisle$Books" "anodes" "I") ∈ bw := bw_in 153 (by decide +kernel) rfl
theorem m_154 : (Cond.fieldLink "HotAisle$Aisle" 121 "HotAisle$Books" "anodes" "I") ∈ bw := bw_in 154 (by decide +kernel) rfl
theorem m_155 : (Cond.fieldLink "HotAisle$Books" 46 "HotAisle$Books" "starved" "I") ∈ bw := bw_in 155 (by decide +kernel) rfl
theorem m_156 : (Cond.fieldLink "HotAisle$Aisle" 225 "HotAisle$Books" "starved" "I") ∈ bw := bw_in 156 (by decide +kernel) rfl
theorem m_157 : (Cond.fieldLink "HotAisle$Books" 49 "HotAisle$Books" "fullMinutes" "I") ∈ bw := bw_in 157 (by decide +kernel) rfl
theorem m_158 : (Cond.fieldLink "HotAisle$Aisle" 169 "HotAisle$Books" "fullMinutes" "I") ∈ bw := bw_in 158 (by decide +kernel) rfl
theorem m_159 : (Cond.fieldLink "HotAisle$Books" 52 "HotAisle$Books" "ordersDone" "I") ∈ bw := bw_in 159 (by decide +kernel) rfl
theorem m_160 : (Cond.fieldLink "HotAisle" 87 "HotAisle$Books" "ordersDone" "I") ∈ bw := bw_in 160 (by decide +kernel) rfl
theorem m_161 : (Cond.fieldLink "HotAisle$Aisle" 250 "HotAisle$Books" "ordersDone" "I") ∈ bw := bw_in 161 (by decide +kernel) rfl
theorem m_162 : (Cond.laysFinal "HotAisle$Books" "HotAisle$Books" "pot" "LHotAisle$Stuff;") ∈ bw := bw_in 162 (by decide +kernel) rfl
theorem m_164 : (Cond.laysFinal "HotAisle$Books" "HotAisle$Books" "givenBack" "LHotAisle$Stuff;") ∈ bw := bw_in 164 (by decide +kernel) rfl
theorem m_166 : (Cond.laysFinal "HotAisle$Books" "HotAisle$Books" "cleanedOff" "LHotAisle$Stuff;") ∈ bw := bw_in 166 (by decide +kernel) rfl
theorem m_168 : (Cond.laysFinal "HotAisle$Books" "HotAisle$Books" "cameIn" "LHotAisle$Stuff;") ∈ bw := bw_in 168 (by decide +kernel) rfl
theorem m_170 : (Cond.laysFinal "HotAisle$Books" "HotAisle$Books" "becameOther" "LHotAisle$Stuff;") ∈ bw := bw_in 170 (by decide +kernel) rfl
theorem m_172 : (Cond.laysFinal "HotAisle$Books" "HotAisle$Books" "cameOfOthers" "LHotAisle$Stuff;") ∈ bw := bw_in 172 (by decide +kernel) rfl
theorem m_174 : (Cond.lays "HotAisle$Books" "HotAisle$Books" "minutesPassed" "I") ∈ bw := bw_in 174 (by decide +kernel) rfl
theorem m_176 : (Cond.lays "HotAisle$Books" "HotAisle$Books" "gasOfMinute" "I") ∈ bw := bw_in 176 (by decide +kernel) rfl
theorem m_178 : (Cond.lays "HotAisle$Books" "HotAisle$Books" "anodes" "I") ∈ bw := bw_in 178 (by decide +kernel) rfl
theorem m_180 : (Cond.lays "HotAisle$Books" "HotAisle$Books" "starved" "I") ∈ bw := bw_in 180 (by decide +kernel) rfl
theorem m_182 : (Cond.lays "HotAisle$Books" "HotAisle$Books" "fullMinutes" "I") ∈ bw := bw_in 182 (by decide +kernel) rfl
theorem m_184 : (Cond.lays "HotAisle$Books" "HotAisle$Books" "ordersDone" "I") ∈ bw := bw_in 184 (by decide +kernel) rfl
theorem m_187 : (Cond.instantiable "HotAisle$Vessel" 6) ∈ bw := bw_in 187 (by decide +kernel) rfl
theorem m_188 : (Cond.methodLink "HotAisle$Aisle" 60 ⟨"HotAisle$Vessel", "<init>", "(I)V"⟩) ∈ bw := bw_in 188 (by decide +kernel) rfl
theorem m_189 : (Cond.instanceMethod ⟨"HotAisle$Vessel", "<init>", "(I)V"⟩) ∈ bw := bw_in 189 (by decide +kernel) rfl
theorem m_190 : (Cond.code ⟨"HotAisle$Vessel", "<init>", "(I)V"⟩ prog_7_method_1_code 2 (none : Option Jvm.ClassFile.FieldType)) ∈ bw := bw_in 190 (by decide +kernel) rfl
theorem m_191 : (Cond.methodLink "HotAisle$Vessel" 3 ⟨"java/lang/Object", "<init>", "()V"⟩) ∈ bw := bw_in 191 (by decide +kernel) rfl
theorem m_192 : (Cond.classLink "HotAisle$Vessel" 9 "HotAisle$Stuff") ∈ bw := bw_in 192 (by decide +kernel) rfl
theorem m_194 : (Cond.fieldLink "HotAisle$Vessel" 22 "HotAisle$Vessel" "place" "I") ∈ bw := bw_in 194 (by decide +kernel) rfl
theorem m_195 : (Cond.fieldLink "HotAisle$Aisle" 91 "HotAisle$Vessel" "place" "I") ∈ bw := bw_in 195 (by decide +kernel) rfl
theorem m_196 : (Cond.fieldLink "HotAisle$Vessel" 12 "HotAisle$Vessel" "stuff" "LHotAisle$Stuff;") ∈ bw := bw_in 196 (by decide +kernel) rfl
theorem m_197 : (Cond.fieldLink "HotAisle" 40 "HotAisle$Vessel" "stuff" "LHotAisle$Stuff;") ∈ bw := bw_in 197 (by decide +kernel) rfl
theorem m_198 : (Cond.fieldLink "HotAisle$Aisle" 142 "HotAisle$Vessel" "stuff" "LHotAisle$Stuff;") ∈ bw := bw_in 198 (by decide +kernel) rfl
theorem m_199 : (Cond.fieldLink "HotAisle$Vessel" 18 "HotAisle$Vessel" "heat" "I") ∈ bw := bw_in 199 (by decide +kernel) rfl
theorem m_200 : (Cond.fieldLink "HotAisle" 71 "HotAisle$Vessel" "heat" "I") ∈ bw := bw_in 200 (by decide +kernel) rfl
theorem m_201 : (Cond.fieldLink "HotAisle$Aisle" 215 "HotAisle$Vessel" "heat" "I") ∈ bw := bw_in 201 (by decide +kernel) rfl
theorem m_202 : (Cond.fieldLink "HotAisle$Vessel" 37 "HotAisle$Vessel" "held" "I") ∈ bw := bw_in 202 (by decide +kernel) rfl
theorem m_203 : (Cond.fieldLink "HotAisle$Aisle" 212 "HotAisle$Vessel" "held" "I") ∈ bw := bw_in 203 (by decide +kernel) rfl
theorem m_204 : (Cond.fieldLink "HotAisle$Vessel" 40 "HotAisle$Vessel" "stopped" "I") ∈ bw := bw_in 204 (by decide +kernel) rfl
theorem m_205 : (Cond.fieldLink "HotAisle$Aisle" 194 "HotAisle$Vessel" "stopped" "I") ∈ bw := bw_in 205 (by decide +kernel) rfl
theorem m_206 : (Cond.fieldLink "HotAisle$Vessel" 25 "HotAisle$Vessel" "isBlown" "Z") ∈ bw := bw_in 206 (by decide +kernel) rfl
theorem m_207 : (Cond.fieldLink "HotAisle" 52 "HotAisle$Vessel" "isBlown" "Z") ∈ bw := bw_in 207 (by decide +kernel) rfl
theorem m_208 : (Cond.fieldLink "HotAisle$Aisle" 181 "HotAisle$Vessel" "isBlown" "Z") ∈ bw := bw_in 208 (by decide +kernel) rfl
theorem m_209 : (Cond.laysFinal "HotAisle$Vessel" "HotAisle$Vessel" "place" "I") ∈ bw := bw_in 209 (by decide +kernel) rfl
theorem m_211 : (Cond.laysFinal "HotAisle$Vessel" "HotAisle$Vessel" "stuff" "LHotAisle$Stuff;") ∈ bw := bw_in 211 (by decide +kernel) rfl
theorem m_213 : (Cond.lays "HotAisle$Vessel" "HotAisle$Vessel" "heat" "I") ∈ bw := bw_in 213 (by decide +kernel) rfl
theorem m_215 : (Cond.lays "HotAisle$Vessel" "HotAisle$Vessel" "held" "I") ∈ bw := bw_in 215 (by decide +kernel) rfl
theorem m_217 : (Cond.lays "HotAisle$Vessel" "HotAisle$Vessel" "stopped" "I") ∈ bw := bw_in 217 (by decide +kernel) rfl
theorem m_219 : (Cond.lays "HotAisle$Vessel" "HotAisle$Vessel" "isBlown" "Z") ∈ bw := bw_in 219 (by decide +kernel) rfl
theorem m_222 : (Cond.instantiable "HotAisle$Ladle" 5) ∈ bw := bw_in 222 (by decide +kernel) rfl
theorem m_223 : (Cond.methodLink "HotAisle$Aisle" 63 ⟨"HotAisle$Ladle", "<init>", "(I)V"⟩) ∈ bw := bw_in 223 (by decide +kernel) rfl
theorem m_224 : (Cond.instanceMethod ⟨"HotAisle$Ladle", "<init>", "(I)V"⟩) ∈ bw := bw_in 224 (by decide +kernel) rfl
theorem m_225 : (Cond.code ⟨"HotAisle$Ladle", "<init>", "(I)V"⟩ prog_5_method_1_code 2 (none : Option Jvm.ClassFile.FieldType)) ∈ bw := bw_in 225 (by decide +kernel) rfl
theorem m_226 : (Cond.methodLink "HotAisle$Ladle" 3 ⟨"java/lang/Object", "<init>", "()V"⟩) ∈ bw := bw_in 226 (by decide +kernel) rfl
theorem m_227 : (Cond.classLink "HotAisle$Ladle" 9 "HotAisle$Stuff") ∈ bw := bw_in 227 (by decide +kernel) rfl
theorem m_229 : (Cond.fieldLink "HotAisle$Ladle" 12 "HotAisle$Ladle" "stuff" "LHotAisle$Stuff;") ∈ bw := bw_in 229 (by decide +kernel) rfl
theorem m_230 : (Cond.fieldLink "HotAisle$Aisle" 145 "HotAisle$Ladle" "stuff" "LHotAisle$Stuff;") ∈ bw := bw_in 230 (by decide +kernel) rfl
theorem m_231 : (Cond.fieldLink "HotAisle$Ladle" 18 "HotAisle$Ladle" "skull" "LHotAisle$Stuff;") ∈ bw := bw_in 231 (by decide +kernel) rfl
theorem m_232 : (Cond.fieldLink "HotAisle$Aisle" 146 "HotAisle$Ladle" "skull" "LHotAisle$Stuff;") ∈ bw := bw_in 232 (by decide +kernel) rfl
theorem m_233 : (Cond.fieldLink "HotAisle$Ladle" 28 "HotAisle$Ladle" "place" "I") ∈ bw := bw_in 233 (by decide +kernel) rfl
theorem m_234 : (Cond.fieldLink "HotAisle$Aisle" 104 "HotAisle$Ladle" "place" "I") ∈ bw := bw_in 234 (by decide +kernel) rfl
theorem m_235 : (Cond.fieldLink "HotAisle$Ladle" 21 "HotAisle$Ladle" "carrier" "I") ∈ bw := bw_in 235 (by decide +kernel) rfl
theorem m_236 : (Cond.fieldLink "HotAisle$Aisle" 98 "HotAisle$Ladle" "carrier" "I") ∈ bw := bw_in 236 (by decide +kernel) rfl
theorem m_237 : (Cond.fieldLink "HotAisle$Ladle" 25 "HotAisle$Ladle" "sort" "I") ∈ bw := bw_in 237 (by decide +kernel) rfl
theorem m_238 : (Cond.fieldLink "HotAisle$Aisle" 298 "HotAisle$Ladle" "sort" "I") ∈ bw := bw_in 238 (by decide +kernel) rfl
theorem m_239 : (Cond.laysFinal "HotAisle$Ladle" "HotAisle$Ladle" "stuff" "LHotAisle$Stuff;") ∈ bw := bw_in 239 (by decide +kernel) rfl
theorem m_241 : (Cond.laysFinal "HotAisle$Ladle" "HotAisle$Ladle" "skull" "LHotAisle$Stuff;") ∈ bw := bw_in 241 (by decide +kernel) rfl
theorem m_243 : (Cond.lays "HotAisle$Ladle" "HotAisle$Ladle" "place" "I") ∈ bw := bw_in 243 (by decide +kernel) rfl
theorem m_245 : (Cond.lays "HotAisle$Ladle" "HotAisle$Ladle" "carrier" "I") ∈ bw := bw_in 245 (by decide +kernel) rfl
theorem m_247 : (Cond.lays "HotAisle$Ladle" "HotAisle$Ladle" "sort" "I") ∈ bw := bw_in 247 (by decide +kernel) rfl
theorem m_250 : (Cond.fieldLink "HotAisle$Aisle" 12 "HotAisle$Aisle" "furnace" "LHotAisle$Stuff;") ∈ bw := bw_in 250 (by decide +kernel) rfl
theorem m_251 : (Cond.fieldLink "HotAisle$Aisle" 24 "HotAisle$Aisle" "vessels" "[LHotAisle$Vessel;") ∈ bw := bw_in 251 (by decide +kernel) rfl
theorem m_252 : (Cond.fieldLink "HotAisle$Aisle" 33 "HotAisle$Aisle" "ladles" "[LHotAisle$Ladle;") ∈ bw := bw_in 252 (by decide +kernel) rfl
theorem m_253 : (Cond.fieldLink "HotAisle$Aisle" 42 "HotAisle$Aisle" "left" "LHotAisle$Crane;") ∈ bw := bw_in 253 (by decide +kernel) rfl
theorem m_254 : (Cond.fieldLink "HotAisle$Aisle" 46 "HotAisle$Aisle" "right" "LHotAisle$Crane;") ∈ bw := bw_in 254 (by decide +kernel) rfl
theorem m_255 : (Cond.fieldLink "HotAisle$Aisle" 52 "HotAisle$Aisle" "books" "LHotAisle$Books;") ∈ bw := bw_in 255 (by decide +kernel) rfl
theorem m_256 : (Cond.fieldLink "HotAisle" 62 "HotAisle$Aisle" "books" "LHotAisle$Books;") ∈ bw := bw_in 256 (by decide +kernel) rfl
theorem m_257 : (Cond.fieldLink "HotAisle$Aisle" 80 "HotAisle$Aisle" "wheelCopper" "I") ∈ bw := bw_in 257 (by decide +kernel) rfl
theorem m_258 : (Cond.fieldLink "HotAisle$Aisle" 56 "HotAisle$Aisle" "gasLimit" "I") ∈ bw := bw_in 258 (by decide +kernel) rfl
theorem m_259 : (Cond.fieldLink "HotAisle" 32 "HotAisle$Aisle" "gasLimit" "I") ∈ bw := bw_in 259 (by decide +kernel) rfl
theorem m_260 : (Cond.fieldLink "HotAisle" 20 "HotAisle$Aisle" "isFed" "Z") ∈ bw := bw_in 260 (by decide +kernel) rfl
theorem m_261 : (Cond.fieldLink "HotAisle$Aisle" 83 "HotAisle$Aisle" "isFed" "Z") ∈ bw := bw_in 261 (by decide +kernel) rfl
theorem m_262 : (Cond.laysFinal "HotAisle$Aisle" "HotAisle$Aisle" "furnace" "LHotAisle$Stuff;") ∈ bw := bw_in 262 (by decide +kernel) rfl
theorem m_264 : (Cond.laysFinal "HotAisle$Aisle" "HotAisle$Aisle" "vessels" "[LHotAisle$Vessel;") ∈ bw := bw_in 264 (by decide +kernel) rfl
theorem m_266 : (Cond.laysFinal "HotAisle$Aisle" "HotAisle$Aisle" "ladles" "[LHotAisle$Ladle;") ∈ bw := bw_in 266 (by decide +kernel) rfl
theorem m_268 : (Cond.laysFinal "HotAisle$Aisle" "HotAisle$Aisle" "left" "LHotAisle$Crane;") ∈ bw := bw_in 268 (by decide +kernel) rfl
theorem m_270 : (Cond.laysFinal "HotAisle$Aisle" "HotAisle$Aisle" "right" "LHotAisle$Crane;") ∈ bw := bw_in 270 (by decide +kernel) rfl
theorem m_272 : (Cond.laysFinal "HotAisle$Aisle" "HotAisle$Aisle" "books" "LHotAisle$Books;") ∈ bw := bw_in 272 (by decide +kernel) rfl
theorem m_274 : (Cond.lays "HotAisle$Aisle" "HotAisle$Aisle" "wheelCopper" "I") ∈ bw := bw_in 274 (by decide +kernel) rfl
theorem m_276 : (Cond.lays "HotAisle$Aisle" "HotAisle$Aisle" "gasLimit" "I") ∈ bw := bw_in 276 (by decide +kernel) rfl
theorem m_278 : (Cond.lays "HotAisle$Aisle" "HotAisle$Aisle" "isFed" "Z") ∈ bw := bw_in 278 (by decide +kernel) rfl
theorem m_282 : (Cond.fieldLink "HotAisle" 10 "HotAisle" "now" "LHotAisle$Aisle;") ∈ bw := bw_in 282 (by decide +kernel) rfl
theorem m_283 : (Cond.fieldLink "HotAisle" 16 "HotAisle" "kept" "[LHotAisle$Aisle;") ∈ bw := bw_in 283 (by decide +kernel) rfl
theorem m_284 : (Cond.fieldLink "HotAisle" 117 "HotAisle" "states" "I") ∈ bw := bw_in 284 (by decide +kernel) rfl
theorem m_285 : (Cond.laysFinal "HotAisle" "HotAisle" "now" "LHotAisle$Aisle;") ∈ bw := bw_in 285 (by decide +kernel) rfl
theorem m_287 : (Cond.laysFinal "HotAisle" "HotAisle" "kept" "[LHotAisle$Aisle;") ∈ bw := bw_in 287 (by decide +kernel) rfl
theorem m_289 : (Cond.lays "HotAisle" "HotAisle" "states" "I") ∈ bw := bw_in 289 (by decide +kernel) rfl
theorem m_292 : (Cond.methodLink "HotAisleLaw" 13 ⟨"HotAisle", "fed", "(Z)I"⟩) ∈ bw := bw_in 292 (by decide +kernel) rfl
theorem m_293 : (Cond.instanceMethod ⟨"HotAisle", "fed", "(Z)I"⟩) ∈ bw := bw_in 293 (by decide +kernel) rfl
theorem m_294 : (Cond.selects "HotAisle" ⟨"HotAisle", "fed", "(Z)I"⟩ ⟨"HotAisle", "fed", "(Z)I"⟩) ∈ bw := bw_in 294 (by decide +kernel) rfl
theorem m_295 : (Cond.code ⟨"HotAisle", "fed", "(Z)I"⟩ prog_1_method_2_code 3 (some FieldType.int)) ∈ bw := bw_in 295 (by decide +kernel) rfl
theorem m_296 : (Cond.methodLink "HotAisle" 24 ⟨"HotAisle", "oneIf", "(Z)I"⟩) ∈ bw := bw_in 296 (by decide +kernel) rfl
theorem m_297 : (Cond.static ⟨"HotAisle", "oneIf", "(Z)I"⟩) ∈ bw := bw_in 297 (by decide +kernel) rfl
theorem m_298 : (Cond.code ⟨"HotAisle", "oneIf", "(Z)I"⟩ prog_1_method_18_code 1 (some FieldType.int)) ∈ bw := bw_in 298 (by decide +kernel) rfl
theorem m_299 : (Cond.methodLink "HotAisleLaw" 18 ⟨"HotAisle", "limit", "(I)I"⟩) ∈ bw := bw_in 299 (by decide +kernel) rfl
theorem m_300 : (Cond.instanceMethod ⟨"HotAisle", "limit", "(I)I"⟩) ∈ bw := bw_in 300 (by decide +kernel) rfl
theorem m_301 : (Cond.selects "HotAisle" ⟨"HotAisle", "limit", "(I)I"⟩ ⟨"HotAisle", "limit", "(I)I"⟩) ∈ bw := bw_in 301 (by decide +kernel) rfl
theorem m_302 : (Cond.code ⟨"HotAisle", "limit", "(I)I"⟩ prog_1_method_3_code 3 (some FieldType.int)) ∈ bw := bw_in 302 (by decide +kernel) rfl
theorem m_303 : (Cond.methodLink "HotAisle" 28 ⟨"HotAisle", "isBetween", "(III)Z"⟩) ∈ bw := bw_in 303 (by decide +kernel) rfl
theorem m_304 : (Cond.static ⟨"HotAisle", "isBetween", "(III)Z"⟩) ∈ bw := bw_in 304 (by decide +kernel) rfl
theorem m_305 : (Cond.code ⟨"HotAisle", "isBetween", "(III)Z"⟩ prog_1_method_17_code 3 (some FieldType.boolean)) ∈ bw := bw_in 305 (by decide +kernel) rfl
theorem m_306 : (Cond.methodLink "HotAisleLaw" 23 ⟨"HotAisle", "blow", "(IZ)I"⟩) ∈ bw := bw_in 306 (by decide +kernel) rfl
theorem m_307 : (Cond.instanceMethod ⟨"HotAisle", "blow", "(IZ)I"⟩) ∈ bw := bw_in 307 (by decide +kernel) rfl
theorem m_308 : (Cond.selects "HotAisle" ⟨"HotAisle", "blow", "(IZ)I"⟩ ⟨"HotAisle", "blow", "(IZ)I"⟩) ∈ bw := bw_in 308 (by decide +kernel) rfl
theorem m_309 : (Cond.code ⟨"HotAisle", "blow", "(IZ)I"⟩ prog_1_method_4_code 5 (some FieldType.int)) ∈ bw := bw_in 309 (by decide +kernel) rfl
theorem m_310 : (Cond.methodLink "HotAisle" 36 ⟨"HotAisle$Aisle", "vesselNumbered", "(I)LHotAisle$Vessel;"⟩) ∈ bw := bw_in 310 (by decide +kernel) rfl
theorem m_311 : (Cond.instanceMethod ⟨"HotAisle$Aisle", "vesselNumbered", "(I)LHotAisle$Vessel;"⟩) ∈ bw := bw_in 311 (by decide +kernel) rfl
theorem m_312 : (Cond.selects "HotAisle$Aisle" ⟨"HotAisle$Aisle", "vesselNumbered", "(I)LHotAisle$Vessel;"⟩ ⟨"HotAisle$Aisle", "vesselNumbered", "(I)LHotAisle$Vessel;"⟩) ∈ bw := bw_in 312 (by decide +kernel) rfl
theorem m_313 : (Cond.code ⟨"HotAisle$Aisle", "vesselNumbered", "(I)LHotAisle$Vessel;"⟩ prog_2_method_3_code 2 (some (FieldType.object "HotAisle$Vessel"))) ∈ bw := bw_in 313 (by decide +kernel) rfl
theorem m_315 : (Cond.methodLink "HotAisle" 46 ⟨"HotAisle$Stuff", "all", "()I"⟩) ∈ bw := bw_in 315 (by decide +kernel) rfl
theorem m_316 : (Cond.instanceMethod ⟨"HotAisle$Stuff", "all", "()I"⟩) ∈ bw := bw_in 316 (by decide +kernel) rfl
theorem m_317 : (Cond.selects "HotAisle$Stuff" ⟨"HotAisle$Stuff", "all", "()I"⟩ ⟨"HotAisle$Stuff", "all", "()I"⟩) ∈ bw := bw_in 317 (by decide +kernel) rfl
theorem m_318 : (Cond.code ⟨"HotAisle$Stuff", "all", "()I"⟩ prog_6_method_4_code 1 (some FieldType.int)) ∈ bw := bw_in 318 (by decide +kernel) rfl
theorem m_319 : (Cond.methodLink "HotAisleLaw" 28 ⟨"HotAisle", "cold", "(II)I"⟩) ∈ bw := bw_in 319 (by decide +kernel) rfl
theorem m_320 : (Cond.instanceMethod ⟨"HotAisle", "cold", "(II)I"⟩) ∈ bw := bw_in 320 (by decide +kernel) rfl
theorem m_321 : (Cond.selects "HotAisle" ⟨"HotAisle", "cold", "(II)I"⟩ ⟨"HotAisle", "cold", "(II)I"⟩) ∈ bw := bw_in 321 (by decide +kernel) rfl
theorem m_322 : (Cond.code ⟨"HotAisle", "cold", "(II)I"⟩ prog_1_method_5_code 5 (some FieldType.int)) ∈ bw := bw_in 322 (by decide +kernel) rfl
theorem m_323 : (Cond.methodLink "HotAisle" 55 ⟨"HotAisle$Vessel", "mixHeat", "(II)V"⟩) ∈ bw := bw_in 323 (by decide +kernel) rfl
theorem m_324 : (Cond.instanceMethod ⟨"HotAisle$Vessel", "mixHeat", "(II)V"⟩) ∈ bw := bw_in 324 (by decide +kernel) rfl
theorem m_325 : (Cond.selects "HotAisle$Vessel" ⟨"HotAisle$Vessel", "mixHeat", "(II)V"⟩ ⟨"HotAisle$Vessel", "mixHeat", "(II)V"⟩) ∈ bw := bw_in 325 (by decide +kernel) rfl
theorem m_326 : (Cond.code ⟨"HotAisle$Vessel", "mixHeat", "(II)V"⟩ prog_7_method_3_code 5 (none : Option Jvm.ClassFile.FieldType)) ∈ bw := bw_in 326 (by decide +kernel) rfl
theorem m_327 : (Cond.methodLink "HotAisle$Vessel" 43 ⟨"HotAisle$Stuff", "all", "()I"⟩) ∈ bw := bw_in 327 (by decide +kernel) rfl
theorem m_328 : (Cond.methodLink "HotAisleLaw" 33 ⟨"HotAisle", "order", "(III)I"⟩) ∈ bw := bw_in 328 (by decide +kernel) rfl
theorem m_329 : (Cond.instanceMethod ⟨"HotAisle", "order", "(III)I"⟩) ∈ bw := bw_in 329 (by decide +kernel) rfl
theorem m_330 : (Cond.selects "HotAisle" ⟨"HotAisle", "order", "(III)I"⟩ ⟨"HotAisle", "order", "(III)I"⟩) ∈ bw := bw_in 330 (by decide +kernel) rfl
theorem m_331 : (Cond.code ⟨"HotAisle", "order", "(III)I"⟩ prog_1_method_6_code 5 (some FieldType.int)) ∈ bw := bw_in 331 (by decide +kernel) rfl
theorem m_332 : (Cond.methodLink "HotAisle" 74 ⟨"HotAisle$Aisle", "craneNumbered", "(I)LHotAisle$Crane;"⟩) ∈ bw := bw_in 332 (by decide +kernel) rfl
theorem m_333 : (Cond.instanceMethod ⟨"HotAisle$Aisle", "craneNumbered", "(I)LHotAisle$Crane;"⟩) ∈ bw := bw_in 333 (by decide +kernel) rfl
theorem m_334 : (Cond.selects "HotAisle$Aisle" ⟨"HotAisle$Aisle", "craneNumbered", "(I)LHotAisle$Crane;"⟩ ⟨"HotAisle$Aisle", "craneNumbered", "(I)LHotAisle$Crane;"⟩) ∈ bw := bw_in 334 (by decide +kernel) rfl
theorem m_335 : (Cond.code ⟨"HotAisle$Aisle", "craneNumbered", "(I)LHotAisle$Crane;"⟩ prog_2_method_9_code 2 (some (FieldType.object "HotAisle$Crane"))) ∈ bw := bw_in 335 (by decide +kernel) rfl
theorem m_336 : (Cond.methodLink "HotAisle" 78 ⟨"HotAisle$Crane", "addOrder", "(II)Z"⟩) ∈ bw := bw_in 336 (by decide +kernel) rfl
theorem m_337 : (Cond.instanceMethod ⟨"HotAisle$Crane", "addOrder", "(II)Z"⟩) ∈ bw := bw_in 337 (by decide +kernel) rfl
theorem m_338 : (Cond.selects "HotAisle$Crane" ⟨"HotAisle$Crane", "addOrder", "(II)Z"⟩ ⟨"HotAisle$Crane", "addOrder", "(II)Z"⟩) ∈ bw := bw_in 338 (by decide +kernel) rfl
theorem m_339 : (Cond.code ⟨"HotAisle$Crane", "addOrder", "(II)Z"⟩ prog_4_method_6_code 3 (some FieldType.boolean)) ∈ bw := bw_in 339 (by decide +kernel) rfl
theorem m_340 : (Cond.methodLink "HotAisleLaw" 38 ⟨"HotAisle", "drop", "(I)I"⟩) ∈ bw := bw_in 340 (by decide +kernel) rfl
theorem m_341 : (Cond.instanceMethod ⟨"HotAisle", "drop", "(I)I"⟩) ∈ bw := bw_in 341 (by decide +kernel) rfl
theorem m_342 : (Cond.selects "HotAisle" ⟨"HotAisle", "drop", "(I)I"⟩ ⟨"HotAisle", "drop", "(I)I"⟩) ∈ bw := bw_in 342 (by decide +kernel) rfl
theorem m_343 : (Cond.code ⟨"HotAisle", "drop", "(I)I"⟩ prog_1_method_7_code 4 (some FieldType.int)) ∈ bw := bw_in 343 (by decide +kernel) rfl
theorem m_344 : (Cond.methodLink "HotAisleLaw" 42 ⟨"HotAisle", "minutes", "(I)I"⟩) ∈ bw := bw_in 344 (by decide +kernel) rfl
theorem m_345 : (Cond.instanceMethod ⟨"HotAisle", "minutes", "(I)I"⟩) ∈ bw := bw_in 345 (by decide +kernel) rfl
theorem m_346 : (Cond.selects "HotAisle" ⟨"HotAisle", "minutes", "(I)I"⟩ ⟨"HotAisle", "minutes", "(I)I"⟩) ∈ bw := bw_in 346 (by decide +kernel) rfl
theorem m_347 : (Cond.code ⟨"HotAisle", "minutes", "(I)I"⟩ prog_1_method_8_code 4 (some FieldType.int)) ∈ bw := bw_in 347 (by decide +kernel) rfl
theorem m_348 : (Cond.methodLink "HotAisle" 90 ⟨"HotAisle$Aisle", "passMinute", "()V"⟩) ∈ bw := bw_in 348 (by decide +kernel) rfl
theorem m_349 : (Cond.instanceMethod ⟨"HotAisle$Aisle", "passMinute", "()V"⟩) ∈ bw := bw_in 349 (by decide +kernel) rfl
theorem m_350 : (Cond.selects "HotAisle$Aisle" ⟨"HotAisle$Aisle", "passMinute", "()V"⟩ ⟨"HotAisle$Aisle", "passMinute", "()V"⟩) ∈ bw := bw_in 350 (by decide +kernel) rfl
theorem m_351 : (Cond.code ⟨"HotAisle$Aisle", "passMinute", "()V"⟩ prog_2_method_15_code 1 (none : Option Jvm.ClassFile.FieldType)) ∈ bw := bw_in 351 (by decide +kernel) rfl
theorem m_352 : (Cond.methodLink "HotAisle$Aisle" 152 ⟨"HotAisle$Aisle", "feedFurnace", "()V"⟩) ∈ bw := bw_in 352 (by decide +kernel) rfl
theorem m_354 : (Cond.instanceMethod ⟨"HotAisle$Aisle", "feedFurnace", "()V"⟩) ∈ bw := bw_in 354 (by decide +kernel) rfl
theorem m_355 : (Cond.code ⟨"HotAisle$Aisle", "feedFurnace", "()V"⟩ prog_2_method_16_code 1 (none : Option Jvm.ClassFile.FieldType)) ∈ bw := bw_in 355 (by decide +kernel) rfl
theorem m_356 : (Cond.methodLink "HotAisle$Aisle" 165 ⟨"HotAisle$Stuff", "all", "()I"⟩) ∈ bw := bw_in 356 (by decide +kernel) rfl
theorem m_357 : (Cond.methodLink "HotAisle$Aisle" 172 ⟨"HotAisle$Aisle", "feed", "(II)V"⟩) ∈ bw := bw_in 357 (by decide +kernel) rfl
theorem m_359 : (Cond.instanceMethod ⟨"HotAisle$Aisle", "feed", "(II)V"⟩) ∈ bw := bw_in 359 (by decide +kernel) rfl
theorem m_360 : (Cond.code ⟨"HotAisle$Aisle", "feed", "(II)V"⟩ prog_2_method_17_code 3 (none : Option Jvm.ClassFile.FieldType)) ∈ bw := bw_in 360 (by decide +kernel) rfl
theorem m_361 : (Cond.methodLink "HotAisle$Aisle" 175 ⟨"HotAisle$Stuff", "add", "(II)V"⟩) ∈ bw := bw_in 361 (by decide +kernel) rfl
theorem m_362 : (Cond.instanceMethod ⟨"HotAisle$Stuff", "add", "(II)V"⟩) ∈ bw := bw_in 362 (by decide +kernel) rfl
theorem m_363 : (Cond.selects "HotAisle$Stuff" ⟨"HotAisle$Stuff", "add", "(II)V"⟩ ⟨"HotAisle$Stuff", "add", "(II)V"⟩) ∈ bw := bw_in 363 (by decide +kernel) rfl
theorem m_364 : (Cond.code ⟨"HotAisle$Stuff", "add", "(II)V"⟩ prog_6_method_3_code 3 (none : Option Jvm.ClassFile.FieldType)) ∈ bw := bw_in 364 (by decide +kernel) rfl
theorem m_365 : (Cond.methodLink "HotAisle$Aisle" 155 ⟨"HotAisle$Aisle", "blowVessels", "()V"⟩) ∈ bw := bw_in 365 (by decide +kernel) rfl
theorem m_367 : (Cond.instanceMethod ⟨"HotAisle$Aisle", "blowVessels", "()V"⟩) ∈ bw := bw_in 367 (by decide +kernel) rfl
theorem m_368 : (Cond.code ⟨"HotAisle$Aisle", "blowVessels", "()V"⟩ prog_2_method_18_code 5 (none : Option Jvm.ClassFile.FieldType)) ∈ bw := bw_in 368 (by decide +kernel) rfl
theorem m_369 : (Cond.methodLink "HotAisle$Aisle" 184 ⟨"HotAisle$Aisle", "blowParts", "(LHotAisle$Vessel;)V"⟩) ∈ bw := bw_in 369 (by decide +kernel) rfl
theorem m_371 : (Cond.instanceMethod ⟨"HotAisle$Aisle", "blowParts", "(LHotAisle$Vessel;)V"⟩) ∈ bw := bw_in 371 (by decide +kernel) rfl
theorem m_372 : (Cond.code ⟨"HotAisle$Aisle", "blowParts", "(LHotAisle$Vessel;)V"⟩ prog_2_method_19_code 5 (none : Option Jvm.ClassFile.FieldType)) ∈ bw := bw_in 372 (by decide +kernel) rfl
theorem m_373 : (Cond.methodLink "HotAisle$Aisle" 190 ⟨"HotAisle$Vessel", "isTooColdOrTooHot", "()Z"⟩) ∈ bw := bw_in 373 (by decide +kernel) rfl
theorem m_374 : (Cond.instanceMethod ⟨"HotAisle$Vessel", "isTooColdOrTooHot", "()Z"⟩) ∈ bw := bw_in 374 (by decide +kernel) rfl
theorem m_375 : (Cond.selects "HotAisle$Vessel" ⟨"HotAisle$Vessel", "isTooColdOrTooHot", "()Z"⟩ ⟨"HotAisle$Vessel", "isTooColdOrTooHot", "()Z"⟩) ∈ bw := bw_in 375 (by decide +kernel) rfl
theorem m_376 : (Cond.code ⟨"HotAisle$Vessel", "isTooColdOrTooHot", "()Z"⟩ prog_7_method_4_code 1 (some FieldType.boolean)) ∈ bw := bw_in 376 (by decide +kernel) rfl
theorem m_378 : (Cond.methodLink "HotAisle$Aisle" 200 ⟨"java/lang/Math", "min", "(II)I"⟩) ∈ bw := bw_in 378 (by decide +kernel) rfl
theorem m_379 : (Cond.static ⟨"java/lang/Math", "min", "(II)I"⟩) ∈ bw := bw_in 379 (by decide +kernel) rfl
theorem m_380 : (Cond.code ⟨"java/lang/Math", "min", "(II)I"⟩ prog_10_method_69_code 2 (some FieldType.int)) ∈ bw := bw_in 380 (by decide +kernel) rfl
theorem m_381 : (Cond.methodLink "HotAisle$Aisle" 218 ⟨"HotAisle$Aisle", "burn", "(LHotAisle$Vessel;II)V"⟩) ∈ bw := bw_in 381 (by decide +kernel) rfl
theorem m_383 : (Cond.instanceMethod ⟨"HotAisle$Aisle", "burn", "(LHotAisle$Vessel;II)V"⟩) ∈ bw := bw_in 383 (by decide +kernel) rfl
theorem m_384 : (Cond.code ⟨"HotAisle$Aisle", "burn", "(LHotAisle$Vessel;II)V"⟩ prog_2_method_20_code 4 (none : Option Jvm.ClassFile.FieldType)) ∈ bw := bw_in 384 (by decide +kernel) rfl
theorem m_385 : (Cond.methodLink "HotAisle$Aisle" 187 ⟨"HotAisle$Vessel", "cool", "()V"⟩) ∈ bw := bw_in 385 (by decide +kernel) rfl
theorem m_386 : (Cond.instanceMethod ⟨"HotAisle$Vessel", "cool", "()V"⟩) ∈ bw := bw_in 386 (by decide +kernel) rfl
theorem m_387 : (Cond.selects "HotAisle$Vessel" ⟨"HotAisle$Vessel", "cool", "()V"⟩ ⟨"HotAisle$Vessel", "cool", "()V"⟩) ∈ bw := bw_in 387 (by decide +kernel) rfl
theorem m_388 : (Cond.code ⟨"HotAisle$Vessel", "cool", "()V"⟩ prog_7_method_6_code 1 (none : Option Jvm.ClassFile.FieldType)) ∈ bw := bw_in 388 (by decide +kernel) rfl
theorem m_389 : (Cond.methodLink "HotAisle$Vessel" 54 ⟨"java/lang/Math", "max", "(II)I"⟩) ∈ bw := bw_in 389 (by decide +kernel) rfl
theorem m_390 : (Cond.static ⟨"java/lang/Math", "max", "(II)I"⟩) ∈ bw := bw_in 390 (by decide +kernel) rfl
theorem m_391 : (Cond.code ⟨"java/lang/Math", "max", "(II)I"⟩ prog_10_method_65_code 2 (some FieldType.int)) ∈ bw := bw_in 391 (by decide +kernel) rfl
theorem m_392 : (Cond.methodLink "HotAisle$Aisle" 158 ⟨"HotAisle$Aisle", "castAnode", "()V"⟩) ∈ bw := bw_in 392 (by decide +kernel) rfl
theorem m_394 : (Cond.instanceMethod ⟨"HotAisle$Aisle", "castAnode", "()V"⟩) ∈ bw := bw_in 394 (by decide +kernel) rfl
theorem m_395 : (Cond.code ⟨"HotAisle$Aisle", "castAnode", "()V"⟩ prog_2_method_21_code 1 (none : Option Jvm.ClassFile.FieldType)) ∈ bw := bw_in 395 (by decide +kernel) rfl
theorem m_396 : (Cond.methodLink "HotAisle$Aisle" 161 ⟨"HotAisle$Aisle", "work", "(LHotAisle$Crane;LHotAisle$Crane;)V"⟩) ∈ bw := bw_in 396 (by decide +kernel) rfl
theorem m_398 : (Cond.instanceMethod ⟨"HotAisle$Aisle", "work", "(LHotAisle$Crane;LHotAisle$Crane;)V"⟩) ∈ bw := bw_in 398 (by decide +kernel) rfl
theorem m_399 : (Cond.code ⟨"HotAisle$Aisle", "work", "(LHotAisle$Crane;LHotAisle$Crane;)V"⟩ prog_2_method_22_code 4 (none : Option Jvm.ClassFile.FieldType)) ∈ bw := bw_in 399 (by decide +kernel) rfl
theorem m_400 : (Cond.methodLink "HotAisle$Aisle" 228 ⟨"HotAisle$Crane", "goesWhereItIs", "()Z"⟩) ∈ bw := bw_in 400 (by decide +kernel) rfl
theorem m_401 : (Cond.instanceMethod ⟨"HotAisle$Crane", "goesWhereItIs", "()Z"⟩) ∈ bw := bw_in 401 (by decide +kernel) rfl
theorem m_402 : (Cond.selects "HotAisle$Crane" ⟨"HotAisle$Crane", "goesWhereItIs", "()Z"⟩ ⟨"HotAisle$Crane", "goesWhereItIs", "()Z"⟩) ∈ bw := bw_in 402 (by decide +kernel) rfl
theorem m_403 : (Cond.code ⟨"HotAisle$Crane", "goesWhereItIs", "()Z"⟩ prog_4_method_4_code 1 (some FieldType.boolean)) ∈ bw := bw_in 403 (by decide +kernel) rfl
theorem m_404 : (Cond.methodLink "HotAisle$Crane" 28 ⟨"HotAisle$Crane", "firstWhat", "()I"⟩) ∈ bw := bw_in 404 (by decide +kernel) rfl
theorem m_405 : (Cond.instanceMethod ⟨"HotAisle$Crane", "firstWhat", "()I"⟩) ∈ bw := bw_in 405 (by decide +kernel) rfl
theorem m_406 : (Cond.selects "HotAisle$Crane" ⟨"HotAisle$Crane", "firstWhat", "()I"⟩ ⟨"HotAisle$Crane", "firstWhat", "()I"⟩) ∈ bw := bw_in 406 (by decide +kernel) rfl
theorem m_407 : (Cond.code ⟨"HotAisle$Crane", "firstWhat", "()I"⟩ prog_4_method_3_code 1 (some FieldType.int)) ∈ bw := bw_in 407 (by decide +kernel) rfl
theorem m_408 : (Cond.methodLink "HotAisle$Aisle" 231 ⟨"HotAisle$Aisle", "finishFirst", "(LHotAisle$Crane;)V"⟩) ∈ bw := bw_in 408 (by decide +kernel) rfl
theorem m_410 : (Cond.instanceMethod ⟨"HotAisle$Aisle", "finishFirst", "(LHotAisle$Crane;)V"⟩) ∈ bw := bw_in 410 (by decide +kernel) rfl
theorem m_411 : (Cond.code ⟨"HotAisle$Aisle", "finishFirst", "(LHotAisle$Crane;)V"⟩ prog_2_method_23_code 2 (none : Option Jvm.ClassFile.FieldType)) ∈ bw := bw_in 411 (by decide +kernel) rfl
theorem m_412 : (Cond.methodLink "HotAisle$Aisle" 247 ⟨"HotAisle$Crane", "removeFirst", "()V"⟩) ∈ bw := bw_in 412 (by decide +kernel) rfl
theorem m_413 : (Cond.instanceMethod ⟨"HotAisle$Crane", "removeFirst", "()V"⟩) ∈ bw := bw_in 413 (by decide +kernel) rfl
theorem m_414 : (Cond.selects "HotAisle$Crane" ⟨"HotAisle$Crane", "removeFirst", "()V"⟩ ⟨"HotAisle$Crane", "removeFirst", "()V"⟩) ∈ bw := bw_in 414 (by decide +kernel) rfl
theorem m_415 : (Cond.code ⟨"HotAisle$Crane", "removeFirst", "()V"⟩ prog_4_method_7_code 2 (none : Option Jvm.ClassFile.FieldType)) ∈ bw := bw_in 415 (by decide +kernel) rfl
theorem m_416 : (Cond.methodLink "HotAisle$Crane" 35 ⟨"java/lang/Math", "max", "(II)I"⟩) ∈ bw := bw_in 416 (by decide +kernel) rfl
theorem m_417 : (Cond.methodLink "HotAisle$Aisle" 234 ⟨"HotAisle$Crane", "firstWhat", "()I"⟩) ∈ bw := bw_in 417 (by decide +kernel) rfl
theorem m_418 : (Cond.methodLink "HotAisle$Aisle" 237 ⟨"HotAisle$Aisle", "stepOrWait", "(LHotAisle$Crane;LHotAisle$Crane;)V"⟩) ∈ bw := bw_in 418 (by decide +kernel) rfl
theorem m_420 : (Cond.instanceMethod ⟨"HotAisle$Aisle", "stepOrWait", "(LHotAisle$Crane;LHotAisle$Crane;)V"⟩) ∈ bw := bw_in 420 (by decide +kernel) rfl
theorem m_421 : (Cond.code ⟨"HotAisle$Aisle", "stepOrWait", "(LHotAisle$Crane;LHotAisle$Crane;)V"⟩ prog_2_method_24_code 5 (none : Option Jvm.ClassFile.FieldType)) ∈ bw := bw_in 421 (by decide +kernel) rfl
theorem m_422 : (Cond.methodLink "HotAisle$Aisle" 253 ⟨"HotAisle$Crane", "nextPlace", "()I"⟩) ∈ bw := bw_in 422 (by decide +kernel) rfl
theorem m_423 : (Cond.instanceMethod ⟨"HotAisle$Crane", "nextPlace", "()I"⟩) ∈ bw := bw_in 423 (by decide +kernel) rfl
theorem m_424 : (Cond.selects "HotAisle$Crane" ⟨"HotAisle$Crane", "nextPlace", "()I"⟩ ⟨"HotAisle$Crane", "nextPlace", "()I"⟩) ∈ bw := bw_in 424 (by decide +kernel) rfl
theorem m_425 : (Cond.code ⟨"HotAisle$Crane", "nextPlace", "()I"⟩ prog_4_method_5_code 1 (some FieldType.int)) ∈ bw := bw_in 425 (by decide +kernel) rfl
theorem m_426 : (Cond.methodLink "HotAisle$Aisle" 257 ⟨"HotAisle$Aisle", "numberOfLadleOn", "(LHotAisle$Crane;)I"⟩) ∈ bw := bw_in 426 (by decide +kernel) rfl
theorem m_427 : (Cond.instanceMethod ⟨"HotAisle$Aisle", "numberOfLadleOn", "(LHotAisle$Crane;)I"⟩) ∈ bw := bw_in 427 (by decide +kernel) rfl
theorem m_428 : (Cond.selects "HotAisle$Aisle" ⟨"HotAisle$Aisle", "numberOfLadleOn", "(LHotAisle$Crane;)I"⟩ ⟨"HotAisle$Aisle", "numberOfLadleOn", "(LHotAisle$Crane;)I"⟩) ∈ bw := bw_in 428 (by decide +kernel) rfl
theorem m_429 : (Cond.code ⟨"HotAisle$Aisle", "numberOfLadleOn", "(LHotAisle$Crane;)I"⟩ prog_2_method_7_code 3 (some FieldType.int)) ∈ bw := bw_in 429 (by decide +kernel) rfl
theorem m_430 : (Cond.methodLink "HotAisle$Aisle" 261 ⟨"HotAisle$Aisle", "ladleNumbered", "(I)LHotAisle$Ladle;"⟩) ∈ bw := bw_in 430 (by decide +kernel) rfl
theorem m_431 : (Cond.instanceMethod ⟨"HotAisle$Aisle", "ladleNumbered", "(I)LHotAisle$Ladle;"⟩) ∈ bw := bw_in 431 (by decide +kernel) rfl
theorem m_432 : (Cond.selects "HotAisle$Aisle" ⟨"HotAisle$Aisle", "ladleNumbered", "(I)LHotAisle$Ladle;"⟩ ⟨"HotAisle$Aisle", "ladleNumbered", "(I)LHotAisle$Ladle;"⟩) ∈ bw := bw_in 432 (by decide +kernel) rfl
theorem m_433 : (Cond.code ⟨"HotAisle$Aisle", "ladleNumbered", "(I)LHotAisle$Ladle;"⟩ prog_2_method_6_code 2 (some (FieldType.object "HotAisle$Ladle"))) ∈ bw := bw_in 433 (by decide +kernel) rfl
theorem m_434 : (Cond.methodLink "HotAisle$Aisle" 240 ⟨"HotAisle$Aisle", "isCarriedOut", "(LHotAisle$Crane;)Z"⟩) ∈ bw := bw_in 434 (by decide +kernel) rfl
theorem m_436 : (Cond.instanceMethod ⟨"HotAisle$Aisle", "isCarriedOut", "(LHotAisle$Crane;)Z"⟩) ∈ bw := bw_in 436 (by decide +kernel) rfl
theorem m_437 : (Cond.code ⟨"HotAisle$Aisle", "isCarriedOut", "(LHotAisle$Crane;)Z"⟩ prog_2_method_25_code 4 (some FieldType.boolean)) ∈ bw := bw_in 437 (by decide +kernel) rfl
theorem m_438 : (Cond.methodLink "HotAisle$Aisle" 265 ⟨"HotAisle$Aisle", "take", "(LHotAisle$Crane;)Z"⟩) ∈ bw := bw_in 438 (by decide +kernel) rfl
theorem m_440 : (Cond.instanceMethod ⟨"HotAisle$Aisle", "take", "(LHotAisle$Crane;)Z"⟩) ∈ bw := bw_in 440 (by decide +kernel) rfl
theorem m_441 : (Cond.code ⟨"HotAisle$Aisle", "take", "(LHotAisle$Crane;)Z"⟩ prog_2_method_26_code 3 (some FieldType.boolean)) ∈ bw := bw_in 441 (by decide +kernel) rfl
theorem m_442 : (Cond.methodLink "HotAisle$Aisle" 288 ⟨"HotAisle$Aisle", "ladleStandingAt", "(I)LHotAisle$Ladle;"⟩) ∈ bw := bw_in 442 (by decide +kernel) rfl
theorem m_443 : (Cond.instanceMethod ⟨"HotAisle$Aisle", "ladleStandingAt", "(I)LHotAisle$Ladle;"⟩) ∈ bw := bw_in 443 (by decide +kernel) rfl
theorem m_444 : (Cond.selects "HotAisle$Aisle" ⟨"HotAisle$Aisle", "ladleStandingAt", "(I)LHotAisle$Ladle;"⟩ ⟨"HotAisle$Aisle", "ladleStandingAt", "(I)LHotAisle$Ladle;"⟩) ∈ bw := bw_in 444 (by decide +kernel) rfl
theorem m_445 : (Cond.code ⟨"HotAisle$Aisle", "ladleStandingAt", "(I)LHotAisle$Ladle;"⟩ prog_2_method_8_code 6 (some (FieldType.object "HotAisle$Ladle"))) ∈ bw := bw_in 445 (by decide +kernel) rfl
theorem m_446 : (Cond.methodLink "HotAisle$Aisle" 94 ⟨"HotAisle$Aisle", "vesselAt", "(I)LHotAisle$Vessel;"⟩) ∈ bw := bw_in 446 (by decide +kernel) rfl
theorem m_447 : (Cond.instanceMethod ⟨"HotAisle$Aisle", "vesselAt", "(I)LHotAisle$Vessel;"⟩) ∈ bw := bw_in 447 (by decide +kernel) rfl
theorem m_448 : (Cond.selects "HotAisle$Aisle" ⟨"HotAisle$Aisle", "vesselAt", "(I)LHotAisle$Vessel;"⟩ ⟨"HotAisle$Aisle", "vesselAt", "(I)LHotAisle$Vessel;"⟩) ∈ bw := bw_in 448 (by decide +kernel) rfl
theorem m_449 : (Cond.code ⟨"HotAisle$Aisle", "vesselAt", "(I)LHotAisle$Vessel;"⟩ prog_2_method_4_code 6 (some (FieldType.object "HotAisle$Vessel"))) ∈ bw := bw_in 449 (by decide +kernel) rfl
theorem m_450 : (Cond.methodLink "HotAisle$Aisle" 268 ⟨"HotAisle$Aisle", "set", "(LHotAisle$Ladle;)Z"⟩) ∈ bw := bw_in 450 (by decide +kernel) rfl
theorem m_452 : (Cond.instanceMethod ⟨"HotAisle$Aisle", "set", "(LHotAisle$Ladle;)Z"⟩) ∈ bw := bw_in 452 (by decide +kernel) rfl
theorem m_453 : (Cond.code ⟨"HotAisle$Aisle", "set", "(LHotAisle$Ladle;)Z"⟩ prog_2_method_27_code 2 (some FieldType.boolean)) ∈ bw := bw_in 453 (by decide +kernel) rfl
theorem m_454 : (Cond.methodLink "HotAisle$Aisle" 291 ⟨"HotAisle$Aisle", "isFloor", "(I)Z"⟩) ∈ bw := bw_in 454 (by decide +kernel) rfl
theorem m_455 : (Cond.instanceMethod ⟨"HotAisle$Aisle", "isFloor", "(I)Z"⟩) ∈ bw := bw_in 455 (by decide +kernel) rfl
theorem m_456 : (Cond.selects "HotAisle$Aisle" ⟨"HotAisle$Aisle", "isFloor", "(I)Z"⟩ ⟨"HotAisle$Aisle", "isFloor", "(I)Z"⟩) ∈ bw := bw_in 456 (by decide +kernel) rfl
theorem m_457 : (Cond.code ⟨"HotAisle$Aisle", "isFloor", "(I)Z"⟩ prog_2_method_5_code 2 (some FieldType.boolean)) ∈ bw := bw_in 457 (by decide +kernel) rfl
theorem m_458 : (Cond.methodLink "HotAisle$Aisle" 272 ⟨"HotAisle$Aisle", "tap", "(LHotAisle$Ladle;)Z"⟩) ∈ bw := bw_in 458 (by decide +kernel) rfl
theorem m_460 : (Cond.instanceMethod ⟨"HotAisle$Aisle", "tap", "(LHotAisle$Ladle;)Z"⟩) ∈ bw := bw_in 460 (by decide +kernel) rfl
theorem m_461 : (Cond.code ⟨"HotAisle$Aisle", "tap", "(LHotAisle$Ladle;)Z"⟩ prog_2_method_28_code 8 (some FieldType.boolean)) ∈ bw := bw_in 461 (by decide +kernel) rfl
theorem m_462 : (Cond.methodLink "HotAisle$Aisle" 295 ⟨"HotAisle$Ladle", "room", "()I"⟩) ∈ bw := bw_in 462 (by decide +kernel) rfl
theorem m_463 : (Cond.instanceMethod ⟨"HotAisle$Ladle", "room", "()I"⟩) ∈ bw := bw_in 463 (by decide +kernel) rfl
theorem m_464 : (Cond.selects "HotAisle$Ladle" ⟨"HotAisle$Ladle", "room", "()I"⟩ ⟨"HotAisle$Ladle", "room", "()I"⟩) ∈ bw := bw_in 464 (by decide +kernel) rfl
theorem m_465 : (Cond.code ⟨"HotAisle$Ladle", "room", "()I"⟩ prog_5_method_3_code 1 (some FieldType.int)) ∈ bw := bw_in 465 (by decide +kernel) rfl
theorem m_466 : (Cond.methodLink "HotAisle$Ladle" 35 ⟨"HotAisle$Stuff", "all", "()I"⟩) ∈ bw := bw_in 466 (by decide +kernel) rfl
theorem m_467 : (Cond.methodLink "HotAisle$Aisle" 301 ⟨"HotAisle$Aisle", "tapStuff", "(LHotAisle$Ladle;II)V"⟩) ∈ bw := bw_in 467 (by decide +kernel) rfl
theorem m_469 : (Cond.instanceMethod ⟨"HotAisle$Aisle", "tapStuff", "(LHotAisle$Ladle;II)V"⟩) ∈ bw := bw_in 469 (by decide +kernel) rfl
theorem m_470 : (Cond.code ⟨"HotAisle$Aisle", "tapStuff", "(LHotAisle$Ladle;II)V"⟩ prog_2_method_29_code 4 (none : Option Jvm.ClassFile.FieldType)) ∈ bw := bw_in 470 (by decide +kernel) rfl
theorem m_471 : (Cond.methodLink "HotAisle$Aisle" 275 ⟨"HotAisle$Aisle", "pour", "(LHotAisle$Ladle;LHotAisle$Vessel;)Z"⟩) ∈ bw := bw_in 471 (by decide +kernel) rfl
theorem m_473 : (Cond.instanceMethod ⟨"HotAisle$Aisle", "pour", "(LHotAisle$Ladle;LHotAisle$Vessel;)Z"⟩) ∈ bw := bw_in 473 (by decide +kernel) rfl
theorem m_474 : (Cond.code ⟨"HotAisle$Aisle", "pour", "(LHotAisle$Ladle;LHotAisle$Vessel;)Z"⟩ prog_2_method_30_code 5 (some FieldType.boolean)) ∈ bw := bw_in 474 (by decide +kernel) rfl
theorem m_475 : (Cond.methodLink "HotAisle$Aisle" 305 ⟨"HotAisle$Ladle", "stuffThatFreezes", "()I"⟩) ∈ bw := bw_in 475 (by decide +kernel) rfl
theorem m_476 : (Cond.instanceMethod ⟨"HotAisle$Ladle", "stuffThatFreezes", "()I"⟩) ∈ bw := bw_in 476 (by decide +kernel) rfl
theorem m_477 : (Cond.selects "HotAisle$Ladle" ⟨"HotAisle$Ladle", "stuffThatFreezes", "()I"⟩ ⟨"HotAisle$Ladle", "stuffThatFreezes", "()I"⟩) ∈ bw := bw_in 477 (by decide +kernel) rfl
theorem m_478 : (Cond.code ⟨"HotAisle$Ladle", "stuffThatFreezes", "()I"⟩ prog_5_method_4_code 1 (some FieldType.int)) ∈ bw := bw_in 478 (by decide +kernel) rfl
theorem m_479 : (Cond.methodLink "HotAisle$Ladle" 39 ⟨"java/lang/Math", "min", "(II)I"⟩) ∈ bw := bw_in 479 (by decide +kernel) rfl
theorem m_480 : (Cond.methodLink "HotAisle$Aisle" 308 ⟨"HotAisle$Aisle", "canPour", "(LHotAisle$Ladle;LHotAisle$Vessel;I)Z"⟩) ∈ bw := bw_in 480 (by decide +kernel) rfl
theorem m_481 : (Cond.static ⟨"HotAisle$Aisle", "canPour", "(LHotAisle$Ladle;LHotAisle$Vessel;I)Z"⟩) ∈ bw := bw_in 481 (by decide +kernel) rfl
theorem m_482 : (Cond.code ⟨"HotAisle$Aisle", "canPour", "(LHotAisle$Ladle;LHotAisle$Vessel;I)Z"⟩ prog_2_method_31_code 3 (some FieldType.boolean)) ∈ bw := bw_in 482 (by decide +kernel) rfl
theorem m_483 : (Cond.methodLink "HotAisle$Aisle" 312 ⟨"HotAisle$Ladle", "freeze", "(I)V"⟩) ∈ bw := bw_in 483 (by decide +kernel) rfl
theorem m_484 : (Cond.instanceMethod ⟨"HotAisle$Ladle", "freeze", "(I)V"⟩) ∈ bw := bw_in 484 (by decide +kernel) rfl
theorem m_485 : (Cond.selects "HotAisle$Ladle" ⟨"HotAisle$Ladle", "freeze", "(I)V"⟩ ⟨"HotAisle$Ladle", "freeze", "(I)V"⟩) ∈ bw := bw_in 485 (by decide +kernel) rfl
theorem m_486 : (Cond.code ⟨"HotAisle$Ladle", "freeze", "(I)V"⟩ prog_5_method_5_code 5 (none : Option Jvm.ClassFile.FieldType)) ∈ bw := bw_in 486 (by decide +kernel) rfl
theorem m_487 : (Cond.methodLink "HotAisle$Ladle" 31 ⟨"HotAisle$Stuff", "of", "(I)I"⟩) ∈ bw := bw_in 487 (by decide +kernel) rfl
theorem m_488 : (Cond.instanceMethod ⟨"HotAisle$Stuff", "of", "(I)I"⟩) ∈ bw := bw_in 488 (by decide +kernel) rfl
theorem m_489 : (Cond.selects "HotAisle$Stuff" ⟨"HotAisle$Stuff", "of", "(I)I"⟩ ⟨"HotAisle$Stuff", "of", "(I)I"⟩) ∈ bw := bw_in 489 (by decide +kernel) rfl
theorem m_490 : (Cond.code ⟨"HotAisle$Stuff", "of", "(I)I"⟩ prog_6_method_2_code 2 (some FieldType.int)) ∈ bw := bw_in 490 (by decide +kernel) rfl
theorem m_491 : (Cond.methodLink "HotAisle$Ladle" 45 ⟨"HotAisle$Stuff", "add", "(II)V"⟩) ∈ bw := bw_in 491 (by decide +kernel) rfl
theorem m_492 : (Cond.methodLink "HotAisle$Aisle" 315 ⟨"HotAisle$Vessel", "mixHeat", "(II)V"⟩) ∈ bw := bw_in 492 (by decide +kernel) rfl
theorem m_493 : (Cond.methodLink "HotAisle$Aisle" 318 ⟨"HotAisle$Stuff", "addAll", "(LHotAisle$Stuff;)V"⟩) ∈ bw := bw_in 493 (by decide +kernel) rfl
theorem m_494 : (Cond.instanceMethod ⟨"HotAisle$Stuff", "addAll", "(LHotAisle$Stuff;)V"⟩) ∈ bw := bw_in 494 (by decide +kernel) rfl
theorem m_495 : (Cond.selects "HotAisle$Stuff" ⟨"HotAisle$Stuff", "addAll", "(LHotAisle$Stuff;)V"⟩ ⟨"HotAisle$Stuff", "addAll", "(LHotAisle$Stuff;)V"⟩) ∈ bw := bw_in 495 (by decide +kernel) rfl
theorem m_496 : (Cond.code ⟨"HotAisle$Stuff", "addAll", "(LHotAisle$Stuff;)V"⟩ prog_6_method_5_code 2 (none : Option Jvm.ClassFile.FieldType)) ∈ bw := bw_in 496 (by decide +kernel) rfl
theorem m_497 : (Cond.methodLink "HotAisle$Aisle" 321 ⟨"HotAisle$Ladle", "empty", "()V"⟩) ∈ bw := bw_in 497 (by decide +kernel) rfl
theorem m_498 : (Cond.instanceMethod ⟨"HotAisle$Ladle", "empty", "()V"⟩) ∈ bw := bw_in 498 (by decide +kernel) rfl
theorem m_499 : (Cond.selects "HotAisle$Ladle" ⟨"HotAisle$Ladle", "empty", "()V"⟩ ⟨"HotAisle$Ladle", "empty", "()V"⟩) ∈ bw := bw_in 499 (by decide +kernel) rfl
theorem m_500 : (Cond.code ⟨"HotAisle$Ladle", "empty", "()V"⟩ prog_5_method_6_code 1 (none : Option Jvm.ClassFile.FieldType)) ∈ bw := bw_in 500 (by decide +kernel) rfl
theorem m_501 : (Cond.methodLink "HotAisle$Ladle" 49 ⟨"HotAisle$Stuff", "clear", "()V"⟩) ∈ bw := bw_in 501 (by decide +kernel) rfl
theorem m_502 : (Cond.instanceMethod ⟨"HotAisle$Stuff", "clear", "()V"⟩) ∈ bw := bw_in 502 (by decide +kernel) rfl
theorem m_503 : (Cond.selects "HotAisle$Stuff" ⟨"HotAisle$Stuff", "clear", "()V"⟩ ⟨"HotAisle$Stuff", "clear", "()V"⟩) ∈ bw := bw_in 503 (by decide +kernel) rfl
theorem m_504 : (Cond.code ⟨"HotAisle$Stuff", "clear", "()V"⟩ prog_6_method_6_code 1 (none : Option Jvm.ClassFile.FieldType)) ∈ bw := bw_in 504 (by decide +kernel) rfl
theorem m_505 : (Cond.methodLink "HotAisle$Aisle" 279 ⟨"HotAisle$Aisle", "skim", "(LHotAisle$Ladle;LHotAisle$Vessel;)Z"⟩) ∈ bw := bw_in 505 (by decide +kernel) rfl
theorem m_506 : (Cond.static ⟨"HotAisle$Aisle", "skim", "(LHotAisle$Ladle;LHotAisle$Vessel;)Z"⟩) ∈ bw := bw_in 506 (by decide +kernel) rfl
theorem m_507 : (Cond.code ⟨"HotAisle$Aisle", "skim", "(LHotAisle$Ladle;LHotAisle$Vessel;)Z"⟩ prog_2_method_32_code 4 (some FieldType.boolean)) ∈ bw := bw_in 507 (by decide +kernel) rfl
theorem m_508 : (Cond.methodLink "HotAisle$Aisle" 282 ⟨"HotAisle$Aisle", "draw", "(LHotAisle$Ladle;LHotAisle$Vessel;)Z"⟩) ∈ bw := bw_in 508 (by decide +kernel) rfl
theorem m_509 : (Cond.static ⟨"HotAisle$Aisle", "draw", "(LHotAisle$Ladle;LHotAisle$Vessel;)Z"⟩) ∈ bw := bw_in 509 (by decide +kernel) rfl
theorem m_510 : (Cond.code ⟨"HotAisle$Aisle", "draw", "(LHotAisle$Ladle;LHotAisle$Vessel;)Z"⟩ prog_2_method_33_code 3 (some FieldType.boolean)) ∈ bw := bw_in 510 (by decide +kernel) rfl
theorem m_511 : (Cond.methodLink "HotAisle$Aisle" 324 ⟨"HotAisle$Vessel", "holdsCopperAlone", "()Z"⟩) ∈ bw := bw_in 511 (by decide +kernel) rfl
theorem m_512 : (Cond.instanceMethod ⟨"HotAisle$Vessel", "holdsCopperAlone", "()Z"⟩) ∈ bw := bw_in 512 (by decide +kernel) rfl
theorem m_513 : (Cond.selects "HotAisle$Vessel" ⟨"HotAisle$Vessel", "holdsCopperAlone", "()Z"⟩ ⟨"HotAisle$Vessel", "holdsCopperAlone", "()Z"⟩) ∈ bw := bw_in 513 (by decide +kernel) rfl
theorem m_514 : (Cond.code ⟨"HotAisle$Vessel", "holdsCopperAlone", "()Z"⟩ prog_7_method_5_code 1 (some FieldType.boolean)) ∈ bw := bw_in 514 (by decide +kernel) rfl
theorem m_515 : (Cond.methodLink "HotAisle$Aisle" 285 ⟨"HotAisle$Aisle", "clean", "(LHotAisle$Ladle;)Z"⟩) ∈ bw := bw_in 515 (by decide +kernel) rfl
theorem m_517 : (Cond.instanceMethod ⟨"HotAisle$Aisle", "clean", "(LHotAisle$Ladle;)Z"⟩) ∈ bw := bw_in 517 (by decide +kernel) rfl
theorem m_518 : (Cond.code ⟨"HotAisle$Aisle", "clean", "(LHotAisle$Ladle;)Z"⟩ prog_2_method_34_code 3 (some FieldType.boolean)) ∈ bw := bw_in 518 (by decide +kernel) rfl
theorem m_519 : (Cond.methodLink "HotAisle$Aisle" 327 ⟨"HotAisle$Stuff", "clear", "()V"⟩) ∈ bw := bw_in 519 (by decide +kernel) rfl
theorem m_520 : (Cond.methodLink "HotAisleLaw" 46 ⟨"HotAisle", "until", "(I)I"⟩) ∈ bw := bw_in 520 (by decide +kernel) rfl
theorem m_521 : (Cond.instanceMethod ⟨"HotAisle", "until", "(I)I"⟩) ∈ bw := bw_in 521 (by decide +kernel) rfl
theorem m_522 : (Cond.selects "HotAisle" ⟨"HotAisle", "until", "(I)I"⟩ ⟨"HotAisle", "until", "(I)I"⟩) ∈ bw := bw_in 522 (by decide +kernel) rfl
theorem m_523 : (Cond.code ⟨"HotAisle", "until", "(I)I"⟩ prog_1_method_9_code 3 (some FieldType.int)) ∈ bw := bw_in 523 (by decide +kernel) rfl
theorem m_524 : (Cond.methodLink "HotAisle" 93 ⟨"HotAisle$Aisle", "hasOrders", "()Z"⟩) ∈ bw := bw_in 524 (by decide +kernel) rfl
theorem m_525 : (Cond.instanceMethod ⟨"HotAisle$Aisle", "hasOrders", "()Z"⟩) ∈ bw := bw_in 525 (by decide +kernel) rfl
theorem m_526 : (Cond.selects "HotAisle$Aisle" ⟨"HotAisle$Aisle", "hasOrders", "()Z"⟩ ⟨"HotAisle$Aisle", "hasOrders", "()Z"⟩) ∈ bw := bw_in 526 (by decide +kernel) rfl
theorem m_527 : (Cond.code ⟨"HotAisle$Aisle", "hasOrders", "()Z"⟩ prog_2_method_10_code 1 (some FieldType.boolean)) ∈ bw := bw_in 527 (by decide +kernel) rfl
theorem m_528 : (Cond.methodLink "HotAisleLaw" 50 ⟨"HotAisle", "crane", "(II)I"⟩) ∈ bw := bw_in 528 (by decide +kernel) rfl
theorem m_529 : (Cond.instanceMethod ⟨"HotAisle", "crane", "(II)I"⟩) ∈ bw := bw_in 529 (by decide +kernel) rfl
theorem m_530 : (Cond.selects "HotAisle" ⟨"HotAisle", "crane", "(II)I"⟩ ⟨"HotAisle", "crane", "(II)I"⟩) ∈ bw := bw_in 530 (by decide +kernel) rfl
theorem m_531 : (Cond.code ⟨"HotAisle", "crane", "(II)I"⟩ prog_1_method_10_code 4 (some FieldType.int)) ∈ bw := bw_in 531 (by decide +kernel) rfl
theorem m_532 : (Cond.methodLink "HotAisle" 97 ⟨"HotAisle$Aisle", "numberOfLadleOn", "(LHotAisle$Crane;)I"⟩) ∈ bw := bw_in 532 (by decide +kernel) rfl
theorem m_533 : (Cond.methodLink "HotAisle" 101 ⟨"HotAisle$Crane", "answer", "(I)I"⟩) ∈ bw := bw_in 533 (by decide +kernel) rfl
theorem m_534 : (Cond.instanceMethod ⟨"HotAisle$Crane", "answer", "(I)I"⟩) ∈ bw := bw_in 534 (by decide +kernel) rfl
theorem m_535 : (Cond.selects "HotAisle$Crane" ⟨"HotAisle$Crane", "answer", "(I)I"⟩ ⟨"HotAisle$Crane", "answer", "(I)I"⟩) ∈ bw := bw_in 535 (by decide +kernel) rfl
theorem m_536 : (Cond.code ⟨"HotAisle$Crane", "answer", "(I)I"⟩ prog_4_method_2_code 2 (some FieldType.int)) ∈ bw := bw_in 536 (by decide +kernel) rfl
theorem m_537 : (Cond.methodLink "HotAisleLaw" 54 ⟨"HotAisle", "ladle", "(II)I"⟩) ∈ bw := bw_in 537 (by decide +kernel) rfl
theorem m_538 : (Cond.instanceMethod ⟨"HotAisle", "ladle", "(II)I"⟩) ∈ bw := bw_in 538 (by decide +kernel) rfl
theorem m_539 : (Cond.selects "HotAisle" ⟨"HotAisle", "ladle", "(II)I"⟩ ⟨"HotAisle", "ladle", "(II)I"⟩) ∈ bw := bw_in 539 (by decide +kernel) rfl
theorem m_540 : (Cond.code ⟨"HotAisle", "ladle", "(II)I"⟩ prog_1_method_11_code 4 (some FieldType.int)) ∈ bw := bw_in 540 (by decide +kernel) rfl
theorem m_541 : (Cond.methodLink "HotAisle" 105 ⟨"HotAisle$Aisle", "ladleNumbered", "(I)LHotAisle$Ladle;"⟩) ∈ bw := bw_in 541 (by decide +kernel) rfl
theorem m_542 : (Cond.methodLink "HotAisle" 109 ⟨"HotAisle$Ladle", "answer", "(I)I"⟩) ∈ bw := bw_in 542 (by decide +kernel) rfl
theorem m_543 : (Cond.instanceMethod ⟨"HotAisle$Ladle", "answer", "(I)I"⟩) ∈ bw := bw_in 543 (by decide +kernel) rfl
theorem m_544 : (Cond.selects "HotAisle$Ladle" ⟨"HotAisle$Ladle", "answer", "(I)I"⟩ ⟨"HotAisle$Ladle", "answer", "(I)I"⟩) ∈ bw := bw_in 544 (by decide +kernel) rfl
theorem m_545 : (Cond.code ⟨"HotAisle$Ladle", "answer", "(I)I"⟩ prog_5_method_2_code 2 (some FieldType.int)) ∈ bw := bw_in 545 (by decide +kernel) rfl
theorem m_546 : (Cond.methodLink "HotAisleLaw" 58 ⟨"HotAisle", "vessel", "(II)I"⟩) ∈ bw := bw_in 546 (by decide +kernel) rfl
theorem m_547 : (Cond.instanceMethod ⟨"HotAisle", "vessel", "(II)I"⟩) ∈ bw := bw_in 547 (by decide +kernel) rfl
theorem m_548 : (Cond.selects "HotAisle" ⟨"HotAisle", "vessel", "(II)I"⟩ ⟨"HotAisle", "vessel", "(II)I"⟩) ∈ bw := bw_in 548 (by decide +kernel) rfl
theorem m_549 : (Cond.code ⟨"HotAisle", "vessel", "(II)I"⟩ prog_1_method_12_code 4 (some FieldType.int)) ∈ bw := bw_in 549 (by decide +kernel) rfl
theorem m_550 : (Cond.methodLink "HotAisle" 112 ⟨"HotAisle$Vessel", "answer", "(I)I"⟩) ∈ bw := bw_in 550 (by decide +kernel) rfl
theorem m_551 : (Cond.instanceMethod ⟨"HotAisle$Vessel", "answer", "(I)I"⟩) ∈ bw := bw_in 551 (by decide +kernel) rfl
theorem m_552 : (Cond.selects "HotAisle$Vessel" ⟨"HotAisle$Vessel", "answer", "(I)I"⟩ ⟨"HotAisle$Vessel", "answer", "(I)I"⟩) ∈ bw := bw_in 552 (by decide +kernel) rfl
theorem m_553 : (Cond.code ⟨"HotAisle$Vessel", "answer", "(I)I"⟩ prog_7_method_2_code 2 (some FieldType.int)) ∈ bw := bw_in 553 (by decide +kernel) rfl
theorem m_555 : (Cond.methodLink "HotAisle$Vessel" 33 ⟨"HotAisle$Stuff", "of", "(I)I"⟩) ∈ bw := bw_in 555 (by decide +kernel) rfl
theorem m_556 : (Cond.methodLink "HotAisleLaw" 62 ⟨"HotAisle", "book", "(II)I"⟩) ∈ bw := bw_in 556 (by decide +kernel) rfl
theorem m_557 : (Cond.instanceMethod ⟨"HotAisle", "book", "(II)I"⟩) ∈ bw := bw_in 557 (by decide +kernel) rfl
theorem m_558 : (Cond.selects "HotAisle" ⟨"HotAisle", "book", "(II)I"⟩ ⟨"HotAisle", "book", "(II)I"⟩) ∈ bw := bw_in 558 (by decide +kernel) rfl
theorem m_559 : (Cond.code ⟨"HotAisle", "book", "(II)I"⟩ prog_1_method_13_code 3 (some FieldType.int)) ∈ bw := bw_in 559 (by decide +kernel) rfl
theorem m_560 : (Cond.methodLink "HotAisle" 113 ⟨"HotAisle$Aisle", "stuffAt", "(II)I"⟩) ∈ bw := bw_in 560 (by decide +kernel) rfl
theorem m_561 : (Cond.instanceMethod ⟨"HotAisle$Aisle", "stuffAt", "(II)I"⟩) ∈ bw := bw_in 561 (by decide +kernel) rfl
theorem m_562 : (Cond.selects "HotAisle$Aisle" ⟨"HotAisle$Aisle", "stuffAt", "(II)I"⟩ ⟨"HotAisle$Aisle", "stuffAt", "(II)I"⟩) ∈ bw := bw_in 562 (by decide +kernel) rfl
theorem m_563 : (Cond.code ⟨"HotAisle$Aisle", "stuffAt", "(II)I"⟩ prog_2_method_11_code 3 (some FieldType.int)) ∈ bw := bw_in 563 (by decide +kernel) rfl
theorem m_564 : (Cond.methodLink "HotAisle$Aisle" 108 ⟨"HotAisle$Stuff", "of", "(I)I"⟩) ∈ bw := bw_in 564 (by decide +kernel) rfl
theorem m_565 : (Cond.methodLink "HotAisle$Aisle" 112 ⟨"HotAisle$Aisle", "inVessels", "(I)I"⟩) ∈ bw := bw_in 565 (by decide +kernel) rfl
theorem m_567 : (Cond.instanceMethod ⟨"HotAisle$Aisle", "inVessels", "(I)I"⟩) ∈ bw := bw_in 567 (by decide +kernel) rfl
theorem m_568 : (Cond.code ⟨"HotAisle$Aisle", "inVessels", "(I)I"⟩ prog_2_method_12_code 7 (some FieldType.int)) ∈ bw := bw_in 568 (by decide +kernel) rfl
theorem m_569 : (Cond.methodLink "HotAisle$Aisle" 115 ⟨"HotAisle$Aisle", "inLadles", "(I)I"⟩) ∈ bw := bw_in 569 (by decide +kernel) rfl
theorem m_571 : (Cond.instanceMethod ⟨"HotAisle$Aisle", "inLadles", "(I)I"⟩) ∈ bw := bw_in 571 (by decide +kernel) rfl
theorem m_572 : (Cond.code ⟨"HotAisle$Aisle", "inLadles", "(I)I"⟩ prog_2_method_13_code 7 (some FieldType.int)) ∈ bw := bw_in 572 (by decide +kernel) rfl
theorem m_573 : (Cond.methodLink "HotAisle$Aisle" 118 ⟨"HotAisle$Aisle", "inSkulls", "(I)I"⟩) ∈ bw := bw_in 573 (by decide +kernel) rfl
theorem m_575 : (Cond.instanceMethod ⟨"HotAisle$Aisle", "inSkulls", "(I)I"⟩) ∈ bw := bw_in 575 (by decide +kernel) rfl
theorem m_576 : (Cond.code ⟨"HotAisle$Aisle", "inSkulls", "(I)I"⟩ prog_2_method_14_code 7 (some FieldType.int)) ∈ bw := bw_in 576 (by decide +kernel) rfl
theorem m_577 : (Cond.methodLink "HotAisleLaw" 66 ⟨"HotAisle", "count", "(I)I"⟩) ∈ bw := bw_in 577 (by decide +kernel) rfl
theorem m_578 : (Cond.instanceMethod ⟨"HotAisle", "count", "(I)I"⟩) ∈ bw := bw_in 578 (by decide +kernel) rfl
theorem m_579 : (Cond.selects "HotAisle" ⟨"HotAisle", "count", "(I)I"⟩ ⟨"HotAisle", "count", "(I)I"⟩) ∈ bw := bw_in 579 (by decide +kernel) rfl
theorem m_580 : (Cond.code ⟨"HotAisle", "count", "(I)I"⟩ prog_1_method_14_code 2 (some FieldType.int)) ∈ bw := bw_in 580 (by decide +kernel) rfl
theorem m_581 : (Cond.methodLink "HotAisle" 120 ⟨"HotAisle$Books", "answer", "(I)I"⟩) ∈ bw := bw_in 581 (by decide +kernel) rfl
theorem m_582 : (Cond.instanceMethod ⟨"HotAisle$Books", "answer", "(I)I"⟩) ∈ bw := bw_in 582 (by decide +kernel) rfl
theorem m_583 : (Cond.selects "HotAisle$Books" ⟨"HotAisle$Books", "answer", "(I)I"⟩ ⟨"HotAisle$Books", "answer", "(I)I"⟩) ∈ bw := bw_in 583 (by decide +kernel) rfl
theorem m_584 : (Cond.code ⟨"HotAisle$Books", "answer", "(I)I"⟩ prog_3_method_2_code 2 (some FieldType.int)) ∈ bw := bw_in 584 (by decide +kernel) rfl
theorem m_585 : (Cond.methodLink "HotAisleLaw" 70 ⟨"HotAisle", "keep", "()I"⟩) ∈ bw := bw_in 585 (by decide +kernel) rfl
theorem m_586 : (Cond.instanceMethod ⟨"HotAisle", "keep", "()I"⟩) ∈ bw := bw_in 586 (by decide +kernel) rfl
theorem m_587 : (Cond.selects "HotAisle" ⟨"HotAisle", "keep", "()I"⟩ ⟨"HotAisle", "keep", "()I"⟩) ∈ bw := bw_in 587 (by decide +kernel) rfl
theorem m_588 : (Cond.code ⟨"HotAisle", "keep", "()I"⟩ prog_1_method_15_code 1 (some FieldType.int)) ∈ bw := bw_in 588 (by decide +kernel) rfl
theorem m_589 : (Cond.methodLink "HotAisle" 121 ⟨"HotAisle$Aisle", "copyFrom", "(LHotAisle$Aisle;)V"⟩) ∈ bw := bw_in 589 (by decide +kernel) rfl
theorem m_590 : (Cond.instanceMethod ⟨"HotAisle$Aisle", "copyFrom", "(LHotAisle$Aisle;)V"⟩) ∈ bw := bw_in 590 (by decide +kernel) rfl
theorem m_591 : (Cond.selects "HotAisle$Aisle" ⟨"HotAisle$Aisle", "copyFrom", "(LHotAisle$Aisle;)V"⟩ ⟨"HotAisle$Aisle", "copyFrom", "(LHotAisle$Aisle;)V"⟩) ∈ bw := bw_in 591 (by decide +kernel) rfl
theorem m_592 : (Cond.code ⟨"HotAisle$Aisle", "copyFrom", "(LHotAisle$Aisle;)V"⟩ prog_2_method_2_code 3 (none : Option Jvm.ClassFile.FieldType)) ∈ bw := bw_in 592 (by decide +kernel) rfl
theorem m_593 : (Cond.methodLink "HotAisle$Aisle" 64 ⟨"HotAisle$Stuff", "copyFrom", "(LHotAisle$Stuff;)V"⟩) ∈ bw := bw_in 593 (by decide +kernel) rfl
theorem m_594 : (Cond.instanceMethod ⟨"HotAisle$Stuff", "copyFrom", "(LHotAisle$Stuff;)V"⟩) ∈ bw := bw_in 594 (by decide +kernel) rfl
theorem m_595 : (Cond.selects "HotAisle$Stuff" ⟨"HotAisle$Stuff", "copyFrom", "(LHotAisle$Stuff;)V"⟩ ⟨"HotAisle$Stuff", "copyFrom", "(LHotAisle$Stuff;)V"⟩) ∈ bw := bw_in 595 (by decide +kernel) rfl
theorem m_596 : (Cond.code ⟨"HotAisle$Stuff", "copyFrom", "(LHotAisle$Stuff;)V"⟩ prog_6_method_7_code 2 (none : Option Jvm.ClassFile.FieldType)) ∈ bw := bw_in 596 (by decide +kernel) rfl
theorem m_597 : (Cond.methodLink "HotAisle$Stuff" 24 ⟨"HotAisle$Stuff", "clear", "()V"⟩) ∈ bw := bw_in 597 (by decide +kernel) rfl
theorem m_598 : (Cond.methodLink "HotAisle$Stuff" 27 ⟨"HotAisle$Stuff", "addAll", "(LHotAisle$Stuff;)V"⟩) ∈ bw := bw_in 598 (by decide +kernel) rfl
theorem m_599 : (Cond.methodLink "HotAisle$Aisle" 68 ⟨"HotAisle$Vessel", "copyFrom", "(LHotAisle$Vessel;)V"⟩) ∈ bw := bw_in 599 (by decide +kernel) rfl
theorem m_600 : (Cond.instanceMethod ⟨"HotAisle$Vessel", "copyFrom", "(LHotAisle$Vessel;)V"⟩) ∈ bw := bw_in 600 (by decide +kernel) rfl
theorem m_601 : (Cond.selects "HotAisle$Vessel" ⟨"HotAisle$Vessel", "copyFrom", "(LHotAisle$Vessel;)V"⟩ ⟨"HotAisle$Vessel", "copyFrom", "(LHotAisle$Vessel;)V"⟩) ∈ bw := bw_in 601 (by decide +kernel) rfl
theorem m_602 : (Cond.code ⟨"HotAisle$Vessel", "copyFrom", "(LHotAisle$Vessel;)V"⟩ prog_7_method_7_code 2 (none : Option Jvm.ClassFile.FieldType)) ∈ bw := bw_in 602 (by decide +kernel) rfl
theorem m_603 : (Cond.methodLink "HotAisle$Vessel" 60 ⟨"HotAisle$Stuff", "copyFrom", "(LHotAisle$Stuff;)V"⟩) ∈ bw := bw_in 603 (by decide +kernel) rfl
theorem m_604 : (Cond.methodLink "HotAisle$Aisle" 71 ⟨"HotAisle$Ladle", "copyFrom", "(LHotAisle$Ladle;)V"⟩) ∈ bw := bw_in 604 (by decide +kernel) rfl
theorem m_605 : (Cond.instanceMethod ⟨"HotAisle$Ladle", "copyFrom", "(LHotAisle$Ladle;)V"⟩) ∈ bw := bw_in 605 (by decide +kernel) rfl
theorem m_606 : (Cond.selects "HotAisle$Ladle" ⟨"HotAisle$Ladle", "copyFrom", "(LHotAisle$Ladle;)V"⟩ ⟨"HotAisle$Ladle", "copyFrom", "(LHotAisle$Ladle;)V"⟩) ∈ bw := bw_in 606 (by decide +kernel) rfl
theorem m_607 : (Cond.code ⟨"HotAisle$Ladle", "copyFrom", "(LHotAisle$Ladle;)V"⟩ prog_5_method_7_code 2 (none : Option Jvm.ClassFile.FieldType)) ∈ bw := bw_in 607 (by decide +kernel) rfl
theorem m_608 : (Cond.methodLink "HotAisle$Ladle" 52 ⟨"HotAisle$Stuff", "copyFrom", "(LHotAisle$Stuff;)V"⟩) ∈ bw := bw_in 608 (by decide +kernel) rfl
theorem m_609 : (Cond.methodLink "HotAisle$Aisle" 74 ⟨"HotAisle$Crane", "copyFrom", "(LHotAisle$Crane;)V"⟩) ∈ bw := bw_in 609 (by decide +kernel) rfl
theorem m_610 : (Cond.instanceMethod ⟨"HotAisle$Crane", "copyFrom", "(LHotAisle$Crane;)V"⟩) ∈ bw := bw_in 610 (by decide +kernel) rfl
theorem m_611 : (Cond.selects "HotAisle$Crane" ⟨"HotAisle$Crane", "copyFrom", "(LHotAisle$Crane;)V"⟩ ⟨"HotAisle$Crane", "copyFrom", "(LHotAisle$Crane;)V"⟩) ∈ bw := bw_in 611 (by decide +kernel) rfl
theorem m_612 : (Cond.code ⟨"HotAisle$Crane", "copyFrom", "(LHotAisle$Crane;)V"⟩ prog_4_method_8_code 2 (none : Option Jvm.ClassFile.FieldType)) ∈ bw := bw_in 612 (by decide +kernel) rfl
theorem m_614 : (Cond.static ⟨"HotAisle", "copyRow", "([I[I)V"⟩) ∈ bw := bw_in 614 (by decide +kernel) rfl
theorem m_615 : (Cond.code ⟨"HotAisle", "copyRow", "([I[I)V"⟩ prog_1_method_19_code 3 (none : Option Jvm.ClassFile.FieldType)) ∈ bw := bw_in 615 (by decide +kernel) rfl
theorem m_616 : (Cond.methodLink "HotAisle$Aisle" 77 ⟨"HotAisle$Books", "copyFrom", "(LHotAisle$Books;)V"⟩) ∈ bw := bw_in 616 (by decide +kernel) rfl
theorem m_617 : (Cond.instanceMethod ⟨"HotAisle$Books", "copyFrom", "(LHotAisle$Books;)V"⟩) ∈ bw := bw_in 617 (by decide +kernel) rfl
theorem m_618 : (Cond.selects "HotAisle$Books" ⟨"HotAisle$Books", "copyFrom", "(LHotAisle$Books;)V"⟩ ⟨"HotAisle$Books", "copyFrom", "(LHotAisle$Books;)V"⟩) ∈ bw := bw_in 618 (by decide +kernel) rfl
theorem m_619 : (Cond.code ⟨"HotAisle$Books", "copyFrom", "(LHotAisle$Books;)V"⟩ prog_3_method_3_code 2 (none : Option Jvm.ClassFile.FieldType)) ∈ bw := bw_in 619 (by decide +kernel) rfl
theorem m_620 : (Cond.methodLink "HotAisle$Books" 55 ⟨"HotAisle$Stuff", "copyFrom", "(LHotAisle$Stuff;)V"⟩) ∈ bw := bw_in 620 (by decide +kernel) rfl
theorem m_621 : (Cond.methodLink "HotAisleLaw" 75 ⟨"HotAisle", "back", "()I"⟩) ∈ bw := bw_in 621 (by decide +kernel) rfl
theorem m_622 : (Cond.instanceMethod ⟨"HotAisle", "back", "()I"⟩) ∈ bw := bw_in 622 (by decide +kernel) rfl
theorem m_623 : (Cond.selects "HotAisle" ⟨"HotAisle", "back", "()I"⟩ ⟨"HotAisle", "back", "()I"⟩) ∈ bw := bw_in 623 (by decide +kernel) rfl
theorem m_624 : (Cond.code ⟨"HotAisle", "back", "()I"⟩ prog_1_method_16_code 1 (some FieldType.int)) ∈ bw := bw_in 624 (by decide +kernel) rfl
theorem m_625 : (Cond.classLink "HotAisleLaw" 10 "HotAisleModel") ∈ bw := bw_in 625 (by decide +kernel) rfl
theorem m_626 : (Cond.instantiable "HotAisleModel" 3) ∈ bw := bw_in 626 (by decide +kernel) rfl
theorem m_627 : (Cond.methodLink "HotAisleLaw" 12 ⟨"HotAisleModel", "<init>", "()V"⟩) ∈ bw := bw_in 627 (by decide +kernel) rfl
theorem m_628 : (Cond.instanceMethod ⟨"HotAisleModel", "<init>", "()V"⟩) ∈ bw := bw_in 628 (by decide +kernel) rfl
theorem m_629 : (Cond.code ⟨"HotAisleModel", "<init>", "()V"⟩ prog_9_method_1_code 2 (none : Option Jvm.ClassFile.FieldType)) ∈ bw := bw_in 629 (by decide +kernel) rfl
theorem m_630 : (Cond.methodLink "HotAisleModel" 1 ⟨"java/lang/Object", "<init>", "()V"⟩) ∈ bw := bw_in 630 (by decide +kernel) rfl
theorem m_631 : (Cond.fieldLink "HotAisleModel" 7 "HotAisleModel" "st" "[I") ∈ bw := bw_in 631 (by decide +kernel) rfl
theorem m_632 : (Cond.fieldLink "HotAisleModel" 13 "HotAisleModel" "kept" "[I") ∈ bw := bw_in 632 (by decide +kernel) rfl
theorem m_633 : (Cond.fieldLink "HotAisleModel" 90 "HotAisleModel" "keptMany" "I") ∈ bw := bw_in 633 (by decide +kernel) rfl
theorem m_634 : (Cond.laysFinal "HotAisleModel" "HotAisleModel" "st" "[I") ∈ bw := bw_in 634 (by decide +kernel) rfl
theorem m_636 : (Cond.laysFinal "HotAisleModel" "HotAisleModel" "kept" "[I") ∈ bw := bw_in 636 (by decide +kernel) rfl
theorem m_638 : (Cond.lays "HotAisleModel" "HotAisleModel" "keptMany" "I") ∈ bw := bw_in 638 (by decide +kernel) rfl
theorem m_641 : (Cond.methodLink "HotAisleLaw" 17 ⟨"HotAisleModel", "fed", "(Z)I"⟩) ∈ bw := bw_in 641 (by decide +kernel) rfl
theorem m_642 : (Cond.instanceMethod ⟨"HotAisleModel", "fed", "(Z)I"⟩) ∈ bw := bw_in 642 (by decide +kernel) rfl
theorem m_643 : (Cond.selects "HotAisleModel" ⟨"HotAisleModel", "fed", "(Z)I"⟩ ⟨"HotAisleModel", "fed", "(Z)I"⟩) ∈ bw := bw_in 643 (by decide +kernel) rfl
theorem m_644 : (Cond.code ⟨"HotAisleModel", "fed", "(Z)I"⟩ prog_9_method_3_code 3 (some FieldType.int)) ∈ bw := bw_in 644 (by decide +kernel) rfl
theorem m_645 : (Cond.methodLink "HotAisleLaw" 22 ⟨"HotAisleModel", "limit", "(I)I"⟩) ∈ bw := bw_in 645 (by decide +kernel) rfl
theorem m_646 : (Cond.instanceMethod ⟨"HotAisleModel", "limit", "(I)I"⟩) ∈ bw := bw_in 646 (by decide +kernel) rfl
theorem m_647 : (Cond.selects "HotAisleModel" ⟨"HotAisleModel", "limit", "(I)I"⟩ ⟨"HotAisleModel", "limit", "(I)I"⟩) ∈ bw := bw_in 647 (by decide +kernel) rfl
theorem m_648 : (Cond.code ⟨"HotAisleModel", "limit", "(I)I"⟩ prog_9_method_4_code 3 (some FieldType.int)) ∈ bw := bw_in 648 (by decide +kernel) rfl
theorem m_649 : (Cond.methodLink "HotAisleModel" 16 ⟨"HotAisleModel", "in", "(III)Z"⟩) ∈ bw := bw_in 649 (by decide +kernel) rfl
theorem m_650 : (Cond.static ⟨"HotAisleModel", "in", "(III)Z"⟩) ∈ bw := bw_in 650 (by decide +kernel) rfl
theorem m_651 : (Cond.code ⟨"HotAisleModel", "in", "(III)Z"⟩ prog_9_method_2_code 3 (some FieldType.boolean)) ∈ bw := bw_in 651 (by decide +kernel) rfl
theorem m_652 : (Cond.methodLink "HotAisleLaw" 27 ⟨"HotAisleModel", "blow", "(IZ)I"⟩) ∈ bw := bw_in 652 (by decide +kernel) rfl
theorem m_653 : (Cond.instanceMethod ⟨"HotAisleModel", "blow", "(IZ)I"⟩) ∈ bw := bw_in 653 (by decide +kernel) rfl
theorem m_654 : (Cond.selects "HotAisleModel" ⟨"HotAisleModel", "blow", "(IZ)I"⟩ ⟨"HotAisleModel", "blow", "(IZ)I"⟩) ∈ bw := bw_in 654 (by decide +kernel) rfl
theorem m_655 : (Cond.code ⟨"HotAisleModel", "blow", "(IZ)I"⟩ prog_9_method_6_code 4 (some FieldType.int)) ∈ bw := bw_in 655 (by decide +kernel) rfl
theorem m_656 : (Cond.methodLink "HotAisleModel" 20 ⟨"HotAisleModel", "sum", "(I)I"⟩) ∈ bw := bw_in 656 (by decide +kernel) rfl
theorem m_658 : (Cond.instanceMethod ⟨"HotAisleModel", "sum", "(I)I"⟩) ∈ bw := bw_in 658 (by decide +kernel) rfl
theorem m_659 : (Cond.code ⟨"HotAisleModel", "sum", "(I)I"⟩ prog_9_method_5_code 2 (some FieldType.int)) ∈ bw := bw_in 659 (by decide +kernel) rfl
theorem m_660 : (Cond.methodLink "HotAisleLaw" 32 ⟨"HotAisleModel", "cold", "(II)I"⟩) ∈ bw := bw_in 660 (by decide +kernel) rfl
theorem m_661 : (Cond.instanceMethod ⟨"HotAisleModel", "cold", "(II)I"⟩) ∈ bw := bw_in 661 (by decide +kernel) rfl
theorem m_662 : (Cond.selects "HotAisleModel" ⟨"HotAisleModel", "cold", "(II)I"⟩ ⟨"HotAisleModel", "cold", "(II)I"⟩) ∈ bw := bw_in 662 (by decide +kernel) rfl
theorem m_663 : (Cond.code ⟨"HotAisleModel", "cold", "(II)I"⟩ prog_9_method_7_code 4 (some FieldType.int)) ∈ bw := bw_in 663 (by decide +kernel) rfl
theorem m_664 : (Cond.methodLink "HotAisleLaw" 37 ⟨"HotAisleModel", "order", "(III)I"⟩) ∈ bw := bw_in 664 (by decide +kernel) rfl
theorem m_665 : (Cond.instanceMethod ⟨"HotAisleModel", "order", "(III)I"⟩) ∈ bw := bw_in 665 (by decide +kernel) rfl
theorem m_666 : (Cond.selects "HotAisleModel" ⟨"HotAisleModel", "order", "(III)I"⟩ ⟨"HotAisleModel", "order", "(III)I"⟩) ∈ bw := bw_in 666 (by decide +kernel) rfl
theorem m_667 : (Cond.code ⟨"HotAisleModel", "order", "(III)I"⟩ prog_9_method_8_code 4 (some FieldType.int)) ∈ bw := bw_in 667 (by decide +kernel) rfl
theorem m_668 : (Cond.methodLink "HotAisleLaw" 41 ⟨"HotAisleModel", "drop", "(I)I"⟩) ∈ bw := bw_in 668 (by decide +kernel) rfl
theorem m_669 : (Cond.instanceMethod ⟨"HotAisleModel", "drop", "(I)I"⟩) ∈ bw := bw_in 669 (by decide +kernel) rfl
theorem m_670 : (Cond.selects "HotAisleModel" ⟨"HotAisleModel", "drop", "(I)I"⟩ ⟨"HotAisleModel", "drop", "(I)I"⟩) ∈ bw := bw_in 670 (by decide +kernel) rfl
theorem m_671 : (Cond.code ⟨"HotAisleModel", "drop", "(I)I"⟩ prog_9_method_9_code 3 (some FieldType.int)) ∈ bw := bw_in 671 (by decide +kernel) rfl
theorem m_672 : (Cond.methodLink "HotAisleLaw" 45 ⟨"HotAisleModel", "minutes", "(I)I"⟩) ∈ bw := bw_in 672 (by decide +kernel) rfl
theorem m_673 : (Cond.instanceMethod ⟨"HotAisleModel", "minutes", "(I)I"⟩) ∈ bw := bw_in 673 (by decide +kernel) rfl
theorem m_674 : (Cond.selects "HotAisleModel" ⟨"HotAisleModel", "minutes", "(I)I"⟩ ⟨"HotAisleModel", "minutes", "(I)I"⟩) ∈ bw := bw_in 674 (by decide +kernel) rfl
theorem m_675 : (Cond.code ⟨"HotAisleModel", "minutes", "(I)I"⟩ prog_9_method_29_code 4 (some FieldType.int)) ∈ bw := bw_in 675 (by decide +kernel) rfl
theorem m_676 : (Cond.methodLink "HotAisleModel" 83 ⟨"HotAisleModel", "minute", "()V"⟩) ∈ bw := bw_in 676 (by decide +kernel) rfl
theorem m_678 : (Cond.instanceMethod ⟨"HotAisleModel", "minute", "()V"⟩) ∈ bw := bw_in 678 (by decide +kernel) rfl
theorem m_679 : (Cond.code ⟨"HotAisleModel", "minute", "()V"⟩ prog_9_method_28_code 2 (none : Option Jvm.ClassFile.FieldType)) ∈ bw := bw_in 679 (by decide +kernel) rfl
theorem m_680 : (Cond.methodLink "HotAisleModel" 74 ⟨"HotAisleModel", "feeds", "()V"⟩) ∈ bw := bw_in 680 (by decide +kernel) rfl
theorem m_682 : (Cond.instanceMethod ⟨"HotAisleModel", "feeds", "()V"⟩) ∈ bw := bw_in 682 (by decide +kernel) rfl
theorem m_683 : (Cond.code ⟨"HotAisleModel", "feeds", "()V"⟩ prog_9_method_10_code 2 (none : Option Jvm.ClassFile.FieldType)) ∈ bw := bw_in 683 (by decide +kernel) rfl
theorem m_684 : (Cond.methodLink "HotAisleModel" 77 ⟨"HotAisleModel", "blows", "(I)V"⟩) ∈ bw := bw_in 684 (by decide +kernel) rfl
theorem m_686 : (Cond.instanceMethod ⟨"HotAisleModel", "blows", "(I)V"⟩) ∈ bw := bw_in 686 (by decide +kernel) rfl
theorem m_687 : (Cond.code ⟨"HotAisleModel", "blows", "(I)V"⟩ prog_9_method_11_code 6 (none : Option Jvm.ClassFile.FieldType)) ∈ bw := bw_in 687 (by decide +kernel) rfl
theorem m_688 : (Cond.methodLink "HotAisleModel" 80 ⟨"HotAisleModel", "goes", "(I)V"⟩) ∈ bw := bw_in 688 (by decide +kernel) rfl
theorem m_690 : (Cond.instanceMethod ⟨"HotAisleModel", "goes", "(I)V"⟩) ∈ bw := bw_in 690 (by decide +kernel) rfl
theorem m_691 : (Cond.code ⟨"HotAisleModel", "goes", "(I)V"⟩ prog_9_method_27_code 4 (none : Option Jvm.ClassFile.FieldType)) ∈ bw := bw_in 691 (by decide +kernel) rfl
theorem m_692 : (Cond.methodLink "HotAisleModel" 67 ⟨"HotAisleModel", "finishes", "(I)V"⟩) ∈ bw := bw_in 692 (by decide +kernel) rfl
theorem m_694 : (Cond.instanceMethod ⟨"HotAisleModel", "finishes", "(I)V"⟩) ∈ bw := bw_in 694 (by decide +kernel) rfl
theorem m_695 : (Cond.code ⟨"HotAisleModel", "finishes", "(I)V"⟩ prog_9_method_26_code 4 (none : Option Jvm.ClassFile.FieldType)) ∈ bw := bw_in 695 (by decide +kernel) rfl
theorem m_696 : (Cond.methodLink "HotAisleModel" 71 ⟨"HotAisleModel", "does", "(II)Z"⟩) ∈ bw := bw_in 696 (by decide +kernel) rfl
theorem m_698 : (Cond.instanceMethod ⟨"HotAisleModel", "does", "(II)Z"⟩) ∈ bw := bw_in 698 (by decide +kernel) rfl
theorem m_699 : (Cond.code ⟨"HotAisleModel", "does", "(II)Z"⟩ prog_9_method_25_code 5 (some FieldType.boolean)) ∈ bw := bw_in 699 (by decide +kernel) rfl
theorem m_700 : (Cond.methodLink "HotAisleModel" 45 ⟨"HotAisleModel", "takes", "(II)Z"⟩) ∈ bw := bw_in 700 (by decide +kernel) rfl
theorem m_702 : (Cond.instanceMethod ⟨"HotAisleModel", "takes", "(II)Z"⟩) ∈ bw := bw_in 702 (by decide +kernel) rfl
theorem m_703 : (Cond.code ⟨"HotAisleModel", "takes", "(II)Z"⟩ prog_9_method_16_code 4 (some FieldType.boolean)) ∈ bw := bw_in 703 (by decide +kernel) rfl
theorem m_704 : (Cond.methodLink "HotAisleModel" 27 ⟨"HotAisleModel", "standsAt", "(I)I"⟩) ∈ bw := bw_in 704 (by decide +kernel) rfl
theorem m_706 : (Cond.instanceMethod ⟨"HotAisleModel", "standsAt", "(I)I"⟩) ∈ bw := bw_in 706 (by decide +kernel) rfl
theorem m_707 : (Cond.code ⟨"HotAisleModel", "standsAt", "(I)I"⟩ prog_9_method_14_code 3 (some FieldType.int)) ∈ bw := bw_in 707 (by decide +kernel) rfl
theorem m_708 : (Cond.methodLink "HotAisleModel" 49 ⟨"HotAisleModel", "sets", "(II)Z"⟩) ∈ bw := bw_in 708 (by decide +kernel) rfl
theorem m_710 : (Cond.instanceMethod ⟨"HotAisleModel", "sets", "(II)Z"⟩) ∈ bw := bw_in 710 (by decide +kernel) rfl
theorem m_711 : (Cond.code ⟨"HotAisleModel", "sets", "(II)Z"⟩ prog_9_method_17_code 4 (some FieldType.boolean)) ∈ bw := bw_in 711 (by decide +kernel) rfl
theorem m_712 : (Cond.methodLink "HotAisleModel" 30 ⟨"HotAisleModel", "isFloor", "(I)Z"⟩) ∈ bw := bw_in 712 (by decide +kernel) rfl
theorem m_713 : (Cond.static ⟨"HotAisleModel", "isFloor", "(I)Z"⟩) ∈ bw := bw_in 713 (by decide +kernel) rfl
theorem m_714 : (Cond.code ⟨"HotAisleModel", "isFloor", "(I)Z"⟩ prog_9_method_13_code 1 (some FieldType.boolean)) ∈ bw := bw_in 714 (by decide +kernel) rfl
theorem m_715 : (Cond.methodLink "HotAisleModel" 24 ⟨"HotAisleModel", "vesselAt", "(I)I"⟩) ∈ bw := bw_in 715 (by decide +kernel) rfl
theorem m_716 : (Cond.static ⟨"HotAisleModel", "vesselAt", "(I)I"⟩) ∈ bw := bw_in 716 (by decide +kernel) rfl
theorem m_717 : (Cond.code ⟨"HotAisleModel", "vesselAt", "(I)I"⟩ prog_9_method_12_code 1 (some FieldType.int)) ∈ bw := bw_in 717 (by decide +kernel) rfl
theorem m_718 : (Cond.methodLink "HotAisleModel" 52 ⟨"HotAisleModel", "taps", "(II)Z"⟩) ∈ bw := bw_in 718 (by decide +kernel) rfl
theorem m_720 : (Cond.instanceMethod ⟨"HotAisleModel", "taps", "(II)Z"⟩) ∈ bw := bw_in 720 (by decide +kernel) rfl
theorem m_721 : (Cond.code ⟨"HotAisleModel", "taps", "(II)Z"⟩ prog_9_method_18_code 10 (some FieldType.boolean)) ∈ bw := bw_in 721 (by decide +kernel) rfl
theorem m_722 : (Cond.methodLink "HotAisleModel" 34 ⟨"HotAisleModel", "room", "(I)I"⟩) ∈ bw := bw_in 722 (by decide +kernel) rfl
theorem m_724 : (Cond.instanceMethod ⟨"HotAisleModel", "room", "(I)I"⟩) ∈ bw := bw_in 724 (by decide +kernel) rfl
theorem m_725 : (Cond.code ⟨"HotAisleModel", "room", "(I)I"⟩ prog_9_method_15_code 2 (some FieldType.int)) ∈ bw := bw_in 725 (by decide +kernel) rfl
theorem m_726 : (Cond.methodLink "HotAisleModel" 37 ⟨"HotAisleModel", "moves", "(IIII)V"⟩) ∈ bw := bw_in 726 (by decide +kernel) rfl
theorem m_728 : (Cond.instanceMethod ⟨"HotAisleModel", "moves", "(IIII)V"⟩) ∈ bw := bw_in 728 (by decide +kernel) rfl
theorem m_729 : (Cond.code ⟨"HotAisleModel", "moves", "(IIII)V"⟩ prog_9_method_19_code 5 (none : Option Jvm.ClassFile.FieldType)) ∈ bw := bw_in 729 (by decide +kernel) rfl
theorem m_730 : (Cond.methodLink "HotAisleModel" 55 ⟨"HotAisleModel", "pours", "(II)Z"⟩) ∈ bw := bw_in 730 (by decide +kernel) rfl
theorem m_732 : (Cond.instanceMethod ⟨"HotAisleModel", "pours", "(II)Z"⟩) ∈ bw := bw_in 732 (by decide +kernel) rfl
theorem m_733 : (Cond.code ⟨"HotAisleModel", "pours", "(II)Z"⟩ prog_9_method_21_code 10 (some FieldType.boolean)) ∈ bw := bw_in 733 (by decide +kernel) rfl
theorem m_734 : (Cond.methodLink "HotAisleModel" 41 ⟨"HotAisleModel", "skulls", "(II)V"⟩) ∈ bw := bw_in 734 (by decide +kernel) rfl
theorem m_736 : (Cond.instanceMethod ⟨"HotAisleModel", "skulls", "(II)V"⟩) ∈ bw := bw_in 736 (by decide +kernel) rfl
theorem m_737 : (Cond.code ⟨"HotAisleModel", "skulls", "(II)V"⟩ prog_9_method_20_code 6 (none : Option Jvm.ClassFile.FieldType)) ∈ bw := bw_in 737 (by decide +kernel) rfl
theorem m_738 : (Cond.methodLink "HotAisleModel" 58 ⟨"HotAisleModel", "skims", "(II)Z"⟩) ∈ bw := bw_in 738 (by decide +kernel) rfl
theorem m_740 : (Cond.instanceMethod ⟨"HotAisleModel", "skims", "(II)Z"⟩) ∈ bw := bw_in 740 (by decide +kernel) rfl
theorem m_741 : (Cond.code ⟨"HotAisleModel", "skims", "(II)Z"⟩ prog_9_method_22_code 5 (some FieldType.boolean)) ∈ bw := bw_in 741 (by decide +kernel) rfl
theorem m_742 : (Cond.methodLink "HotAisleModel" 61 ⟨"HotAisleModel", "draws", "(II)Z"⟩) ∈ bw := bw_in 742 (by decide +kernel) rfl
theorem m_744 : (Cond.instanceMethod ⟨"HotAisleModel", "draws", "(II)Z"⟩) ∈ bw := bw_in 744 (by decide +kernel) rfl
theorem m_745 : (Cond.code ⟨"HotAisleModel", "draws", "(II)Z"⟩ prog_9_method_23_code 5 (some FieldType.boolean)) ∈ bw := bw_in 745 (by decide +kernel) rfl
theorem m_746 : (Cond.methodLink "HotAisleModel" 64 ⟨"HotAisleModel", "cleans", "(II)Z"⟩) ∈ bw := bw_in 746 (by decide +kernel) rfl
theorem m_748 : (Cond.instanceMethod ⟨"HotAisleModel", "cleans", "(II)Z"⟩) ∈ bw := bw_in 748 (by decide +kernel) rfl
theorem m_749 : (Cond.code ⟨"HotAisleModel", "cleans", "(II)Z"⟩ prog_9_method_24_code 4 (some FieldType.boolean)) ∈ bw := bw_in 749 (by decide +kernel) rfl
theorem m_750 : (Cond.methodLink "HotAisleLaw" 49 ⟨"HotAisleModel", "until", "(I)I"⟩) ∈ bw := bw_in 750 (by decide +kernel) rfl
theorem m_751 : (Cond.instanceMethod ⟨"HotAisleModel", "until", "(I)I"⟩) ∈ bw := bw_in 751 (by decide +kernel) rfl
theorem m_752 : (Cond.selects "HotAisleModel" ⟨"HotAisleModel", "until", "(I)I"⟩ ⟨"HotAisleModel", "until", "(I)I"⟩) ∈ bw := bw_in 752 (by decide +kernel) rfl
theorem m_753 : (Cond.code ⟨"HotAisleModel", "until", "(I)I"⟩ prog_9_method_30_code 3 (some FieldType.int)) ∈ bw := bw_in 753 (by decide +kernel) rfl
theorem m_754 : (Cond.methodLink "HotAisleLaw" 53 ⟨"HotAisleModel", "crane", "(II)I"⟩) ∈ bw := bw_in 754 (by decide +kernel) rfl
theorem m_755 : (Cond.instanceMethod ⟨"HotAisleModel", "crane", "(II)I"⟩) ∈ bw := bw_in 755 (by decide +kernel) rfl
theorem m_756 : (Cond.selects "HotAisleModel" ⟨"HotAisleModel", "crane", "(II)I"⟩ ⟨"HotAisleModel", "crane", "(II)I"⟩) ∈ bw := bw_in 756 (by decide +kernel) rfl
theorem m_757 : (Cond.code ⟨"HotAisleModel", "crane", "(II)I"⟩ prog_9_method_31_code 3 (some FieldType.int)) ∈ bw := bw_in 757 (by decide +kernel) rfl
theorem m_758 : (Cond.methodLink "HotAisleLaw" 57 ⟨"HotAisleModel", "ladle", "(II)I"⟩) ∈ bw := bw_in 758 (by decide +kernel) rfl
theorem m_759 : (Cond.instanceMethod ⟨"HotAisleModel", "ladle", "(II)I"⟩) ∈ bw := bw_in 759 (by decide +kernel) rfl
theorem m_760 : (Cond.selects "HotAisleModel" ⟨"HotAisleModel", "ladle", "(II)I"⟩ ⟨"HotAisleModel", "ladle", "(II)I"⟩) ∈ bw := bw_in 760 (by decide +kernel) rfl
theorem m_761 : (Cond.code ⟨"HotAisleModel", "ladle", "(II)I"⟩ prog_9_method_32_code 3 (some FieldType.int)) ∈ bw := bw_in 761 (by decide +kernel) rfl
theorem m_762 : (Cond.methodLink "HotAisleLaw" 61 ⟨"HotAisleModel", "vessel", "(II)I"⟩) ∈ bw := bw_in 762 (by decide +kernel) rfl
theorem m_763 : (Cond.instanceMethod ⟨"HotAisleModel", "vessel", "(II)I"⟩) ∈ bw := bw_in 763 (by decide +kernel) rfl
theorem m_764 : (Cond.selects "HotAisleModel" ⟨"HotAisleModel", "vessel", "(II)I"⟩ ⟨"HotAisleModel", "vessel", "(II)I"⟩) ∈ bw := bw_in 764 (by decide +kernel) rfl
theorem m_765 : (Cond.code ⟨"HotAisleModel", "vessel", "(II)I"⟩ prog_9_method_33_code 3 (some FieldType.int)) ∈ bw := bw_in 765 (by decide +kernel) rfl
theorem m_766 : (Cond.methodLink "HotAisleLaw" 65 ⟨"HotAisleModel", "book", "(II)I"⟩) ∈ bw := bw_in 766 (by decide +kernel) rfl
theorem m_767 : (Cond.instanceMethod ⟨"HotAisleModel", "book", "(II)I"⟩) ∈ bw := bw_in 767 (by decide +kernel) rfl
theorem m_768 : (Cond.selects "HotAisleModel" ⟨"HotAisleModel", "book", "(II)I"⟩ ⟨"HotAisleModel", "book", "(II)I"⟩) ∈ bw := bw_in 768 (by decide +kernel) rfl
theorem m_769 : (Cond.code ⟨"HotAisleModel", "book", "(II)I"⟩ prog_9_method_35_code 3 (some FieldType.int)) ∈ bw := bw_in 769 (by decide +kernel) rfl
theorem m_770 : (Cond.methodLink "HotAisleModel" 86 ⟨"HotAisleModel", "several", "(III)I"⟩) ∈ bw := bw_in 770 (by decide +kernel) rfl
theorem m_772 : (Cond.instanceMethod ⟨"HotAisleModel", "several", "(III)I"⟩) ∈ bw := bw_in 772 (by decide +kernel) rfl
theorem m_773 : (Cond.code ⟨"HotAisleModel", "several", "(III)I"⟩ prog_9_method_34_code 6 (some FieldType.int)) ∈ bw := bw_in 773 (by decide +kernel) rfl
theorem m_774 : (Cond.methodLink "HotAisleLaw" 69 ⟨"HotAisleModel", "count", "(I)I"⟩) ∈ bw := bw_in 774 (by decide +kernel) rfl
theorem m_775 : (Cond.instanceMethod ⟨"HotAisleModel", "count", "(I)I"⟩) ∈ bw := bw_in 775 (by decide +kernel) rfl
theorem m_776 : (Cond.selects "HotAisleModel" ⟨"HotAisleModel", "count", "(I)I"⟩ ⟨"HotAisleModel", "count", "(I)I"⟩) ∈ bw := bw_in 776 (by decide +kernel) rfl
theorem m_777 : (Cond.code ⟨"HotAisleModel", "count", "(I)I"⟩ prog_9_method_36_code 2 (some FieldType.int)) ∈ bw := bw_in 777 (by decide +kernel) rfl
theorem m_778 : (Cond.methodLink "HotAisleLaw" 74 ⟨"HotAisleModel", "keep", "()I"⟩) ∈ bw := bw_in 778 (by decide +kernel) rfl
theorem m_779 : (Cond.instanceMethod ⟨"HotAisleModel", "keep", "()I"⟩) ∈ bw := bw_in 779 (by decide +kernel) rfl
theorem m_780 : (Cond.selects "HotAisleModel" ⟨"HotAisleModel", "keep", "()I"⟩ ⟨"HotAisleModel", "keep", "()I"⟩) ∈ bw := bw_in 780 (by decide +kernel) rfl
theorem m_781 : (Cond.code ⟨"HotAisleModel", "keep", "()I"⟩ prog_9_method_37_code 2 (some FieldType.int)) ∈ bw := bw_in 781 (by decide +kernel) rfl
theorem m_782 : (Cond.methodLink "HotAisleLaw" 78 ⟨"HotAisleModel", "back", "()I"⟩) ∈ bw := bw_in 782 (by decide +kernel) rfl
theorem m_783 : (Cond.instanceMethod ⟨"HotAisleModel", "back", "()I"⟩) ∈ bw := bw_in 783 (by decide +kernel) rfl
theorem m_784 : (Cond.selects "HotAisleModel" ⟨"HotAisleModel", "back", "()I"⟩ ⟨"HotAisleModel", "back", "()I"⟩) ∈ bw := bw_in 784 (by decide +kernel) rfl
theorem m_785 : (Cond.code ⟨"HotAisleModel", "back", "()I"⟩ prog_9_method_38_code 2 (some FieldType.int)) ∈ bw := bw_in 785 (by decide +kernel) rfl
end
section
/-! names of the program: fields by their slots, codes, methods -/
def TX0 : u_T := fun k => match k with
  | 0 => ("HotAisle$Aisle", "furnace", "LHotAisle$Stuff;", true)
  | 1 => ("HotAisle$Aisle", "vessels", "[LHotAisle$Vessel;", true)
  | 2 => ("HotAisle$Aisle", "ladles", "[LHotAisle$Ladle;", true)
  | 3 => ("HotAisle$Aisle", "left", "LHotAisle$Crane;", true)
  | 4 => ("HotAisle$Aisle", "right", "LHotAisle$Crane;", true)
  | 5 => ("HotAisle$Aisle", "books", "LHotAisle$Books;", true)
  | 6 => ("HotAisle$Aisle", "wheelCopper", "I", false)
  | 7 => ("HotAisle$Aisle", "gasLimit", "I", false)
  | _ => ("HotAisle$Aisle", "isFed", "Z", false)
def tyX0 : Nat → FieldType := fun k => match k with
  | 0 => .object "HotAisle$Stuff"
  | 1 => .array (.object "HotAisle$Vessel")
  | 2 => .array (.object "HotAisle$Ladle")
  | 3 => .object "HotAisle$Crane"
  | 4 => .object "HotAisle$Crane"
  | 5 => .object "HotAisle$Books"
  | 6 => .int
  | 7 => .int
  | _ => .boolean
theorem nmX0 : ∀ a, a < 9 → ∀ b, b < 9 → a ≠ b → (TX0 a).2.1 ≠ (TX0 b).2.1 := by decide +kernel
theorem tyX0_ok : ∀ k, k < 9 → parseFieldDescriptor (TX0 k).2.2.1 = some (tyX0 k) := by decide +kernel
abbrev cX0_init : ByteArray := prog_2_method_1_code
abbrev yX0_init : MethodName := ⟨"HotAisle$Aisle", "<init>", "()V"⟩
abbrev cX0_copyFrom : ByteArray := prog_2_method_2_code
abbrev yX0_copyFrom : MethodName := ⟨"HotAisle$Aisle", "copyFrom", "(LHotAisle$Aisle;)V"⟩
abbrev cX0_vesselNumbered : ByteArray := prog_2_method_3_code
abbrev yX0_vesselNumbered : MethodName := ⟨"HotAisle$Aisle", "vesselNumbered", "(I)LHotAisle$Vessel;"⟩
abbrev cX0_vesselAt : ByteArray := prog_2_method_4_code
abbrev yX0_vesselAt : MethodName := ⟨"HotAisle$Aisle", "vesselAt", "(I)LHotAisle$Vessel;"⟩
abbrev cX0_isFloor : ByteArray := prog_2_method_5_code
abbrev yX0_isFloor : MethodName := ⟨"HotAisle$Aisle", "isFloor", "(I)Z"⟩
abbrev cX0_ladleNumbered : ByteArray := prog_2_method_6_code
abbrev yX0_ladleNumbered : MethodName := ⟨"HotAisle$Aisle", "ladleNumbered", "(I)LHotAisle$Ladle;"⟩
abbrev cX0_numberOfLadleOn : ByteArray := prog_2_method_7_code
abbrev yX0_numberOfLadleOn : MethodName := ⟨"HotAisle$Aisle", "numberOfLadleOn", "(LHotAisle$Crane;)I"⟩
abbrev cX0_ladleStandingAt : ByteArray := prog_2_method_8_code
abbrev yX0_ladleStandingAt : MethodName := ⟨"HotAisle$Aisle", "ladleStandingAt", "(I)LHotAisle$Ladle;"⟩
abbrev cX0_craneNumbered : ByteArray := prog_2_method_9_code
abbrev yX0_craneNumbered : MethodName := ⟨"HotAisle$Aisle", "craneNumbered", "(I)LHotAisle$Crane;"⟩
abbrev cX0_hasOrders : ByteArray := prog_2_method_10_code
abbrev yX0_hasOrders : MethodName := ⟨"HotAisle$Aisle", "hasOrders", "()Z"⟩
abbrev cX0_stuffAt : ByteArray := prog_2_method_11_code
abbrev yX0_stuffAt : MethodName := ⟨"HotAisle$Aisle", "stuffAt", "(II)I"⟩
abbrev cX0_inVessels : ByteArray := prog_2_method_12_code
abbrev yX0_inVessels : MethodName := ⟨"HotAisle$Aisle", "inVessels", "(I)I"⟩
abbrev cX0_inLadles : ByteArray := prog_2_method_13_code
abbrev yX0_inLadles : MethodName := ⟨"HotAisle$Aisle", "inLadles", "(I)I"⟩
abbrev cX0_inSkulls : ByteArray := prog_2_method_14_code
abbrev yX0_inSkulls : MethodName := ⟨"HotAisle$Aisle", "inSkulls", "(I)I"⟩
abbrev cX0_passMinute : ByteArray := prog_2_method_15_code
abbrev yX0_passMinute : MethodName := ⟨"HotAisle$Aisle", "passMinute", "()V"⟩
abbrev cX0_feedFurnace : ByteArray := prog_2_method_16_code
abbrev yX0_feedFurnace : MethodName := ⟨"HotAisle$Aisle", "feedFurnace", "()V"⟩
abbrev cX0_feed : ByteArray := prog_2_method_17_code
abbrev yX0_feed : MethodName := ⟨"HotAisle$Aisle", "feed", "(II)V"⟩
abbrev cX0_blowVessels : ByteArray := prog_2_method_18_code
abbrev yX0_blowVessels : MethodName := ⟨"HotAisle$Aisle", "blowVessels", "()V"⟩
abbrev cX0_blowParts : ByteArray := prog_2_method_19_code
abbrev yX0_blowParts : MethodName := ⟨"HotAisle$Aisle", "blowParts", "(LHotAisle$Vessel;)V"⟩
abbrev cX0_burn : ByteArray := prog_2_method_20_code
abbrev yX0_burn : MethodName := ⟨"HotAisle$Aisle", "burn", "(LHotAisle$Vessel;II)V"⟩
abbrev cX0_castAnode : ByteArray := prog_2_method_21_code
abbrev yX0_castAnode : MethodName := ⟨"HotAisle$Aisle", "castAnode", "()V"⟩
abbrev cX0_work : ByteArray := prog_2_method_22_code
abbrev yX0_work : MethodName := ⟨"HotAisle$Aisle", "work", "(LHotAisle$Crane;LHotAisle$Crane;)V"⟩
abbrev cX0_finishFirst : ByteArray := prog_2_method_23_code
abbrev yX0_finishFirst : MethodName := ⟨"HotAisle$Aisle", "finishFirst", "(LHotAisle$Crane;)V"⟩
abbrev cX0_stepOrWait : ByteArray := prog_2_method_24_code
abbrev yX0_stepOrWait : MethodName := ⟨"HotAisle$Aisle", "stepOrWait", "(LHotAisle$Crane;LHotAisle$Crane;)V"⟩
abbrev cX0_isCarriedOut : ByteArray := prog_2_method_25_code
abbrev yX0_isCarriedOut : MethodName := ⟨"HotAisle$Aisle", "isCarriedOut", "(LHotAisle$Crane;)Z"⟩
abbrev cX0_take : ByteArray := prog_2_method_26_code
abbrev yX0_take : MethodName := ⟨"HotAisle$Aisle", "take", "(LHotAisle$Crane;)Z"⟩
abbrev cX0_set : ByteArray := prog_2_method_27_code
abbrev yX0_set : MethodName := ⟨"HotAisle$Aisle", "set", "(LHotAisle$Ladle;)Z"⟩
abbrev cX0_tap : ByteArray := prog_2_method_28_code
abbrev yX0_tap : MethodName := ⟨"HotAisle$Aisle", "tap", "(LHotAisle$Ladle;)Z"⟩
abbrev cX0_tapStuff : ByteArray := prog_2_method_29_code
abbrev yX0_tapStuff : MethodName := ⟨"HotAisle$Aisle", "tapStuff", "(LHotAisle$Ladle;II)V"⟩
abbrev cX0_pour : ByteArray := prog_2_method_30_code
abbrev yX0_pour : MethodName := ⟨"HotAisle$Aisle", "pour", "(LHotAisle$Ladle;LHotAisle$Vessel;)Z"⟩
abbrev cX0_canPour : ByteArray := prog_2_method_31_code
abbrev yX0_canPour : MethodName := ⟨"HotAisle$Aisle", "canPour", "(LHotAisle$Ladle;LHotAisle$Vessel;I)Z"⟩
abbrev cX0_skim : ByteArray := prog_2_method_32_code
abbrev yX0_skim : MethodName := ⟨"HotAisle$Aisle", "skim", "(LHotAisle$Ladle;LHotAisle$Vessel;)Z"⟩
abbrev cX0_draw : ByteArray := prog_2_method_33_code
abbrev yX0_draw : MethodName := ⟨"HotAisle$Aisle", "draw", "(LHotAisle$Ladle;LHotAisle$Vessel;)Z"⟩
abbrev cX0_clean : ByteArray := prog_2_method_34_code
abbrev yX0_clean : MethodName := ⟨"HotAisle$Aisle", "clean", "(LHotAisle$Ladle;)Z"⟩
def TX1 : u_T := fun k => match k with
  | 0 => ("HotAisle$Books", "pot", "LHotAisle$Stuff;", true)
  | 1 => ("HotAisle$Books", "givenBack", "LHotAisle$Stuff;", true)
  | 2 => ("HotAisle$Books", "cleanedOff", "LHotAisle$Stuff;", true)
  | 3 => ("HotAisle$Books", "cameIn", "LHotAisle$Stuff;", true)
  | 4 => ("HotAisle$Books", "becameOther", "LHotAisle$Stuff;", true)
  | 5 => ("HotAisle$Books", "cameOfOthers", "LHotAisle$Stuff;", true)
  | 6 => ("HotAisle$Books", "minutesPassed", "I", false)
  | 7 => ("HotAisle$Books", "gasOfMinute", "I", false)
  | 8 => ("HotAisle$Books", "anodes", "I", false)
  | 9 => ("HotAisle$Books", "starved", "I", false)
  | 10 => ("HotAisle$Books", "fullMinutes", "I", false)
  | _ => ("HotAisle$Books", "ordersDone", "I", false)
def tyX1 : Nat → FieldType := fun k => match k with
  | 0 => .object "HotAisle$Stuff"
  | 1 => .object "HotAisle$Stuff"
  | 2 => .object "HotAisle$Stuff"
  | 3 => .object "HotAisle$Stuff"
  | 4 => .object "HotAisle$Stuff"
  | 5 => .object "HotAisle$Stuff"
  | 6 => .int
  | 7 => .int
  | 8 => .int
  | 9 => .int
  | 10 => .int
  | _ => .int
theorem nmX1 : ∀ a, a < 12 → ∀ b, b < 12 → a ≠ b → (TX1 a).2.1 ≠ (TX1 b).2.1 := by decide +kernel
theorem tyX1_ok : ∀ k, k < 12 → parseFieldDescriptor (TX1 k).2.2.1 = some (tyX1 k) := by decide +kernel
abbrev cX1_init : ByteArray := prog_3_method_1_code
abbrev yX1_init : MethodName := ⟨"HotAisle$Books", "<init>", "()V"⟩
abbrev cX1_answer : ByteArray := prog_3_method_2_code
abbrev yX1_answer : MethodName := ⟨"HotAisle$Books", "answer", "(I)I"⟩
abbrev cX1_copyFrom : ByteArray := prog_3_method_3_code
abbrev yX1_copyFrom : MethodName := ⟨"HotAisle$Books", "copyFrom", "(LHotAisle$Books;)V"⟩
def TX2 : u_T := fun k => match k with
  | 0 => ("HotAisle$Crane", "number", "I", true)
  | 1 => ("HotAisle$Crane", "whats", "[I", true)
  | 2 => ("HotAisle$Crane", "targets", "[I", true)
  | 3 => ("HotAisle$Crane", "place", "I", false)
  | 4 => ("HotAisle$Crane", "orders", "I", false)
  | _ => ("HotAisle$Crane", "waits", "I", false)
def tyX2 : Nat → FieldType := fun k => match k with
  | 0 => .int
  | 1 => .array .int
  | 2 => .array .int
  | 3 => .int
  | 4 => .int
  | _ => .int
theorem nmX2 : ∀ a, a < 6 → ∀ b, b < 6 → a ≠ b → (TX2 a).2.1 ≠ (TX2 b).2.1 := by decide +kernel
theorem tyX2_ok : ∀ k, k < 6 → parseFieldDescriptor (TX2 k).2.2.1 = some (tyX2 k) := by decide +kernel
abbrev cX2_init : ByteArray := prog_4_method_1_code
abbrev yX2_init : MethodName := ⟨"HotAisle$Crane", "<init>", "(II)V"⟩
abbrev cX2_answer : ByteArray := prog_4_method_2_code
abbrev yX2_answer : MethodName := ⟨"HotAisle$Crane", "answer", "(I)I"⟩
abbrev cX2_firstWhat : ByteArray := prog_4_method_3_code
abbrev yX2_firstWhat : MethodName := ⟨"HotAisle$Crane", "firstWhat", "()I"⟩
abbrev cX2_goesWhereItIs : ByteArray := prog_4_method_4_code
abbrev yX2_goesWhereItIs : MethodName := ⟨"HotAisle$Crane", "goesWhereItIs", "()Z"⟩
abbrev cX2_nextPlace : ByteArray := prog_4_method_5_code
abbrev yX2_nextPlace : MethodName := ⟨"HotAisle$Crane", "nextPlace", "()I"⟩
abbrev cX2_addOrder : ByteArray := prog_4_method_6_code
abbrev yX2_addOrder : MethodName := ⟨"HotAisle$Crane", "addOrder", "(II)Z"⟩
abbrev cX2_removeFirst : ByteArray := prog_4_method_7_code
abbrev yX2_removeFirst : MethodName := ⟨"HotAisle$Crane", "removeFirst", "()V"⟩
abbrev cX2_copyFrom : ByteArray := prog_4_method_8_code
abbrev yX2_copyFrom : MethodName := ⟨"HotAisle$Crane", "copyFrom", "(LHotAisle$Crane;)V"⟩
def TX3 : u_T := fun k => match k with
  | 0 => ("HotAisle$Ladle", "stuff", "LHotAisle$Stuff;", true)
  | 1 => ("HotAisle$Ladle", "skull", "LHotAisle$Stuff;", true)
  | 2 => ("HotAisle$Ladle", "place", "I", false)
  | 3 => ("HotAisle$Ladle", "carrier", "I", false)
  | _ => ("HotAisle$Ladle", "sort", "I", false)
def tyX3 : Nat → FieldType := fun k => match k with
  | 0 => .object "HotAisle$Stuff"
  | 1 => .object "HotAisle$Stuff"
  | 2 => .int
  | 3 => .int
  | _ => .int
theorem nmX3 : ∀ a, a < 5 → ∀ b, b < 5 → a ≠ b → (TX3 a).2.1 ≠ (TX3 b).2.1 := by decide +kernel
theorem tyX3_ok : ∀ k, k < 5 → parseFieldDescriptor (TX3 k).2.2.1 = some (tyX3 k) := by decide +kernel
abbrev cX3_init : ByteArray := prog_5_method_1_code
abbrev yX3_init : MethodName := ⟨"HotAisle$Ladle", "<init>", "(I)V"⟩
abbrev cX3_answer : ByteArray := prog_5_method_2_code
abbrev yX3_answer : MethodName := ⟨"HotAisle$Ladle", "answer", "(I)I"⟩
abbrev cX3_room : ByteArray := prog_5_method_3_code
abbrev yX3_room : MethodName := ⟨"HotAisle$Ladle", "room", "()I"⟩
abbrev cX3_stuffThatFreezes : ByteArray := prog_5_method_4_code
abbrev yX3_stuffThatFreezes : MethodName := ⟨"HotAisle$Ladle", "stuffThatFreezes", "()I"⟩
abbrev cX3_freeze : ByteArray := prog_5_method_5_code
abbrev yX3_freeze : MethodName := ⟨"HotAisle$Ladle", "freeze", "(I)V"⟩
abbrev cX3_empty : ByteArray := prog_5_method_6_code
abbrev yX3_empty : MethodName := ⟨"HotAisle$Ladle", "empty", "()V"⟩
abbrev cX3_copyFrom : ByteArray := prog_5_method_7_code
abbrev yX3_copyFrom : MethodName := ⟨"HotAisle$Ladle", "copyFrom", "(LHotAisle$Ladle;)V"⟩
def TX4 : u_T := fun k => match k with
  | 0 => ("HotAisle$Stuff", "copper", "I", false)
  | 1 => ("HotAisle$Stuff", "iron", "I", false)
  | 2 => ("HotAisle$Stuff", "sulphur", "I", false)
  | _ => ("HotAisle$Stuff", "slag", "I", false)
def tyX4 : Nat → FieldType := fun k => match k with
  | 0 => .int
  | 1 => .int
  | 2 => .int
  | _ => .int
theorem nmX4 : ∀ a, a < 4 → ∀ b, b < 4 → a ≠ b → (TX4 a).2.1 ≠ (TX4 b).2.1 := by decide +kernel
theorem tyX4_ok : ∀ k, k < 4 → parseFieldDescriptor (TX4 k).2.2.1 = some (tyX4 k) := by decide +kernel
abbrev cX4_init : ByteArray := prog_6_method_1_code
abbrev yX4_init : MethodName := ⟨"HotAisle$Stuff", "<init>", "()V"⟩
abbrev cX4_of : ByteArray := prog_6_method_2_code
abbrev yX4_of : MethodName := ⟨"HotAisle$Stuff", "of", "(I)I"⟩
abbrev cX4_add : ByteArray := prog_6_method_3_code
abbrev yX4_add : MethodName := ⟨"HotAisle$Stuff", "add", "(II)V"⟩
abbrev cX4_all : ByteArray := prog_6_method_4_code
abbrev yX4_all : MethodName := ⟨"HotAisle$Stuff", "all", "()I"⟩
abbrev cX4_addAll : ByteArray := prog_6_method_5_code
abbrev yX4_addAll : MethodName := ⟨"HotAisle$Stuff", "addAll", "(LHotAisle$Stuff;)V"⟩
abbrev cX4_clear : ByteArray := prog_6_method_6_code
abbrev yX4_clear : MethodName := ⟨"HotAisle$Stuff", "clear", "()V"⟩
abbrev cX4_copyFrom : ByteArray := prog_6_method_7_code
abbrev yX4_copyFrom : MethodName := ⟨"HotAisle$Stuff", "copyFrom", "(LHotAisle$Stuff;)V"⟩
def TX5 : u_T := fun k => match k with
  | 0 => ("HotAisle$Vessel", "place", "I", true)
  | 1 => ("HotAisle$Vessel", "stuff", "LHotAisle$Stuff;", true)
  | 2 => ("HotAisle$Vessel", "heat", "I", false)
  | 3 => ("HotAisle$Vessel", "held", "I", false)
  | 4 => ("HotAisle$Vessel", "stopped", "I", false)
  | _ => ("HotAisle$Vessel", "isBlown", "Z", false)
def tyX5 : Nat → FieldType := fun k => match k with
  | 0 => .int
  | 1 => .object "HotAisle$Stuff"
  | 2 => .int
  | 3 => .int
  | 4 => .int
  | _ => .boolean
theorem nmX5 : ∀ a, a < 6 → ∀ b, b < 6 → a ≠ b → (TX5 a).2.1 ≠ (TX5 b).2.1 := by decide +kernel
theorem tyX5_ok : ∀ k, k < 6 → parseFieldDescriptor (TX5 k).2.2.1 = some (tyX5 k) := by decide +kernel
abbrev cX5_init : ByteArray := prog_7_method_1_code
abbrev yX5_init : MethodName := ⟨"HotAisle$Vessel", "<init>", "(I)V"⟩
abbrev cX5_answer : ByteArray := prog_7_method_2_code
abbrev yX5_answer : MethodName := ⟨"HotAisle$Vessel", "answer", "(I)I"⟩
abbrev cX5_mixHeat : ByteArray := prog_7_method_3_code
abbrev yX5_mixHeat : MethodName := ⟨"HotAisle$Vessel", "mixHeat", "(II)V"⟩
abbrev cX5_isTooColdOrTooHot : ByteArray := prog_7_method_4_code
abbrev yX5_isTooColdOrTooHot : MethodName := ⟨"HotAisle$Vessel", "isTooColdOrTooHot", "()Z"⟩
abbrev cX5_holdsCopperAlone : ByteArray := prog_7_method_5_code
abbrev yX5_holdsCopperAlone : MethodName := ⟨"HotAisle$Vessel", "holdsCopperAlone", "()Z"⟩
abbrev cX5_cool : ByteArray := prog_7_method_6_code
abbrev yX5_cool : MethodName := ⟨"HotAisle$Vessel", "cool", "()V"⟩
abbrev cX5_copyFrom : ByteArray := prog_7_method_7_code
abbrev yX5_copyFrom : MethodName := ⟨"HotAisle$Vessel", "copyFrom", "(LHotAisle$Vessel;)V"⟩
def TX6 : u_T := fun k => match k with
  | 0 => ("HotAisle", "now", "LHotAisle$Aisle;", true)
  | 1 => ("HotAisle", "kept", "[LHotAisle$Aisle;", true)
  | _ => ("HotAisle", "states", "I", false)
def tyX6 : Nat → FieldType := fun k => match k with
  | 0 => .object "HotAisle$Aisle"
  | 1 => .array (.object "HotAisle$Aisle")
  | _ => .int
theorem nmX6 : ∀ a, a < 3 → ∀ b, b < 3 → a ≠ b → (TX6 a).2.1 ≠ (TX6 b).2.1 := by decide +kernel
theorem tyX6_ok : ∀ k, k < 3 → parseFieldDescriptor (TX6 k).2.2.1 = some (tyX6 k) := by decide +kernel
abbrev cX6_init : ByteArray := prog_1_method_1_code
abbrev yX6_init : MethodName := ⟨"HotAisle", "<init>", "()V"⟩
abbrev cX6_fed : ByteArray := prog_1_method_2_code
abbrev yX6_fed : MethodName := ⟨"HotAisle", "fed", "(Z)I"⟩
abbrev cX6_limit : ByteArray := prog_1_method_3_code
abbrev yX6_limit : MethodName := ⟨"HotAisle", "limit", "(I)I"⟩
abbrev cX6_blow : ByteArray := prog_1_method_4_code
abbrev yX6_blow : MethodName := ⟨"HotAisle", "blow", "(IZ)I"⟩
abbrev cX6_cold : ByteArray := prog_1_method_5_code
abbrev yX6_cold : MethodName := ⟨"HotAisle", "cold", "(II)I"⟩
abbrev cX6_order : ByteArray := prog_1_method_6_code
abbrev yX6_order : MethodName := ⟨"HotAisle", "order", "(III)I"⟩
abbrev cX6_drop : ByteArray := prog_1_method_7_code
abbrev yX6_drop : MethodName := ⟨"HotAisle", "drop", "(I)I"⟩
abbrev cX6_minutes : ByteArray := prog_1_method_8_code
abbrev yX6_minutes : MethodName := ⟨"HotAisle", "minutes", "(I)I"⟩
abbrev cX6_until : ByteArray := prog_1_method_9_code
abbrev yX6_until : MethodName := ⟨"HotAisle", "until", "(I)I"⟩
abbrev cX6_crane : ByteArray := prog_1_method_10_code
abbrev yX6_crane : MethodName := ⟨"HotAisle", "crane", "(II)I"⟩
abbrev cX6_ladle : ByteArray := prog_1_method_11_code
abbrev yX6_ladle : MethodName := ⟨"HotAisle", "ladle", "(II)I"⟩
abbrev cX6_vessel : ByteArray := prog_1_method_12_code
abbrev yX6_vessel : MethodName := ⟨"HotAisle", "vessel", "(II)I"⟩
abbrev cX6_book : ByteArray := prog_1_method_13_code
abbrev yX6_book : MethodName := ⟨"HotAisle", "book", "(II)I"⟩
abbrev cX6_count : ByteArray := prog_1_method_14_code
abbrev yX6_count : MethodName := ⟨"HotAisle", "count", "(I)I"⟩
abbrev cX6_keep : ByteArray := prog_1_method_15_code
abbrev yX6_keep : MethodName := ⟨"HotAisle", "keep", "()I"⟩
abbrev cX6_back : ByteArray := prog_1_method_16_code
abbrev yX6_back : MethodName := ⟨"HotAisle", "back", "()I"⟩
abbrev cX6_isBetween : ByteArray := prog_1_method_17_code
abbrev yX6_isBetween : MethodName := ⟨"HotAisle", "isBetween", "(III)Z"⟩
abbrev cX6_oneIf : ByteArray := prog_1_method_18_code
abbrev yX6_oneIf : MethodName := ⟨"HotAisle", "oneIf", "(Z)I"⟩
abbrev cX6_copyRow : ByteArray := prog_1_method_19_code
abbrev yX6_copyRow : MethodName := ⟨"HotAisle", "copyRow", "([I[I)V"⟩
def TX7 : u_T := fun k => match k with
  | 0 => ("HotAisleModel", "st", "[I", true)
  | 1 => ("HotAisleModel", "kept", "[I", true)
  | _ => ("HotAisleModel", "keptMany", "I", false)
def tyX7 : Nat → FieldType := fun k => match k with
  | 0 => .array .int
  | 1 => .array .int
  | _ => .int
theorem nmX7 : ∀ a, a < 3 → ∀ b, b < 3 → a ≠ b → (TX7 a).2.1 ≠ (TX7 b).2.1 := by decide +kernel
theorem tyX7_ok : ∀ k, k < 3 → parseFieldDescriptor (TX7 k).2.2.1 = some (tyX7 k) := by decide +kernel
abbrev cX7_init : ByteArray := prog_9_method_1_code
abbrev yX7_init : MethodName := ⟨"HotAisleModel", "<init>", "()V"⟩
abbrev cX7_in : ByteArray := prog_9_method_2_code
abbrev yX7_in : MethodName := ⟨"HotAisleModel", "in", "(III)Z"⟩
abbrev cX7_fed : ByteArray := prog_9_method_3_code
abbrev yX7_fed : MethodName := ⟨"HotAisleModel", "fed", "(Z)I"⟩
abbrev cX7_limit : ByteArray := prog_9_method_4_code
abbrev yX7_limit : MethodName := ⟨"HotAisleModel", "limit", "(I)I"⟩
abbrev cX7_sum : ByteArray := prog_9_method_5_code
abbrev yX7_sum : MethodName := ⟨"HotAisleModel", "sum", "(I)I"⟩
abbrev cX7_blow : ByteArray := prog_9_method_6_code
abbrev yX7_blow : MethodName := ⟨"HotAisleModel", "blow", "(IZ)I"⟩
abbrev cX7_cold : ByteArray := prog_9_method_7_code
abbrev yX7_cold : MethodName := ⟨"HotAisleModel", "cold", "(II)I"⟩
abbrev cX7_order : ByteArray := prog_9_method_8_code
abbrev yX7_order : MethodName := ⟨"HotAisleModel", "order", "(III)I"⟩
abbrev cX7_drop : ByteArray := prog_9_method_9_code
abbrev yX7_drop : MethodName := ⟨"HotAisleModel", "drop", "(I)I"⟩
abbrev cX7_feeds : ByteArray := prog_9_method_10_code
abbrev yX7_feeds : MethodName := ⟨"HotAisleModel", "feeds", "()V"⟩
abbrev cX7_blows : ByteArray := prog_9_method_11_code
abbrev yX7_blows : MethodName := ⟨"HotAisleModel", "blows", "(I)V"⟩
abbrev cX7_vesselAt : ByteArray := prog_9_method_12_code
abbrev yX7_vesselAt : MethodName := ⟨"HotAisleModel", "vesselAt", "(I)I"⟩
abbrev cX7_isFloor : ByteArray := prog_9_method_13_code
abbrev yX7_isFloor : MethodName := ⟨"HotAisleModel", "isFloor", "(I)Z"⟩
abbrev cX7_standsAt : ByteArray := prog_9_method_14_code
abbrev yX7_standsAt : MethodName := ⟨"HotAisleModel", "standsAt", "(I)I"⟩
abbrev cX7_room : ByteArray := prog_9_method_15_code
abbrev yX7_room : MethodName := ⟨"HotAisleModel", "room", "(I)I"⟩
abbrev cX7_takes : ByteArray := prog_9_method_16_code
abbrev yX7_takes : MethodName := ⟨"HotAisleModel", "takes", "(II)Z"⟩
abbrev cX7_sets : ByteArray := prog_9_method_17_code
abbrev yX7_sets : MethodName := ⟨"HotAisleModel", "sets", "(II)Z"⟩
abbrev cX7_taps : ByteArray := prog_9_method_18_code
abbrev yX7_taps : MethodName := ⟨"HotAisleModel", "taps", "(II)Z"⟩
abbrev cX7_moves : ByteArray := prog_9_method_19_code
abbrev yX7_moves : MethodName := ⟨"HotAisleModel", "moves", "(IIII)V"⟩
abbrev cX7_skulls : ByteArray := prog_9_method_20_code
abbrev yX7_skulls : MethodName := ⟨"HotAisleModel", "skulls", "(II)V"⟩
abbrev cX7_pours : ByteArray := prog_9_method_21_code
abbrev yX7_pours : MethodName := ⟨"HotAisleModel", "pours", "(II)Z"⟩
abbrev cX7_skims : ByteArray := prog_9_method_22_code
abbrev yX7_skims : MethodName := ⟨"HotAisleModel", "skims", "(II)Z"⟩
abbrev cX7_draws : ByteArray := prog_9_method_23_code
abbrev yX7_draws : MethodName := ⟨"HotAisleModel", "draws", "(II)Z"⟩
abbrev cX7_cleans : ByteArray := prog_9_method_24_code
abbrev yX7_cleans : MethodName := ⟨"HotAisleModel", "cleans", "(II)Z"⟩
abbrev cX7_does : ByteArray := prog_9_method_25_code
abbrev yX7_does : MethodName := ⟨"HotAisleModel", "does", "(II)Z"⟩
abbrev cX7_finishes : ByteArray := prog_9_method_26_code
abbrev yX7_finishes : MethodName := ⟨"HotAisleModel", "finishes", "(I)V"⟩
abbrev cX7_goes : ByteArray := prog_9_method_27_code
abbrev yX7_goes : MethodName := ⟨"HotAisleModel", "goes", "(I)V"⟩
abbrev cX7_minute : ByteArray := prog_9_method_28_code
abbrev yX7_minute : MethodName := ⟨"HotAisleModel", "minute", "()V"⟩
abbrev cX7_minutes : ByteArray := prog_9_method_29_code
abbrev yX7_minutes : MethodName := ⟨"HotAisleModel", "minutes", "(I)I"⟩
abbrev cX7_until : ByteArray := prog_9_method_30_code
abbrev yX7_until : MethodName := ⟨"HotAisleModel", "until", "(I)I"⟩
abbrev cX7_crane : ByteArray := prog_9_method_31_code
abbrev yX7_crane : MethodName := ⟨"HotAisleModel", "crane", "(II)I"⟩
abbrev cX7_ladle : ByteArray := prog_9_method_32_code
abbrev yX7_ladle : MethodName := ⟨"HotAisleModel", "ladle", "(II)I"⟩
abbrev cX7_vessel : ByteArray := prog_9_method_33_code
abbrev yX7_vessel : MethodName := ⟨"HotAisleModel", "vessel", "(II)I"⟩
abbrev cX7_several : ByteArray := prog_9_method_34_code
abbrev yX7_several : MethodName := ⟨"HotAisleModel", "several", "(III)I"⟩
abbrev cX7_book : ByteArray := prog_9_method_35_code
abbrev yX7_book : MethodName := ⟨"HotAisleModel", "book", "(II)I"⟩
abbrev cX7_count : ByteArray := prog_9_method_36_code
abbrev yX7_count : MethodName := ⟨"HotAisleModel", "count", "(I)I"⟩
abbrev cX7_keep : ByteArray := prog_9_method_37_code
abbrev yX7_keep : MethodName := ⟨"HotAisleModel", "keep", "()I"⟩
abbrev cX7_back : ByteArray := prog_9_method_38_code
abbrev yX7_back : MethodName := ⟨"HotAisleModel", "back", "()I"⟩
abbrev cJ9_max_7cf53 : ByteArray := prog_10_method_65_code
abbrev yJ9_max_7cf53 : MethodName := ⟨"java/lang/Math", "max", "(II)I"⟩
abbrev cJ9_min_7cf53 : ByteArray := prog_10_method_69_code
abbrev yJ9_min_7cf53 : MethodName := ⟨"java/lang/Math", "min", "(II)I"⟩
abbrev cL_law : ByteArray := code
abbrev yL_law : MethodName := ⟨"HotAisleLaw", "law", "([I)Z"⟩
abbrev vwCl : List vw_C := [("HotAisle$Aisle", TX0, 9), ("HotAisle$Books", TX1, 12), ("HotAisle$Crane", TX2, 6), ("HotAisle$Ladle", TX3, 5), ("HotAisle$Stuff", TX4, 4), ("HotAisle$Vessel", TX5, 6), ("HotAisle", TX6, 3), ("HotAisleModel", TX7, 3)]
end
section
/-! the base: contracts over one world, the frame of a call -/
theorem vP_iff {D : va_G} {cl : List vw_C} {ws : va_W} {H : Heap} : va_P D cl ws H ↔ ∀ x ∈ ws, va_at D cl x H :=
  ⟨fun h x hx => by obtain ⟨k, hk⟩ := List.getElem?_of_mem hx; exact h k x hk, fun h k x hk => h x (List.mem_of_getElem? hk)⟩
theorem vD_iff {A : Nat → Prop} {ws : va_W} : va_D A ws ↔ (ws.map (fun x => x.1)).Nodup ∧ ∀ x ∈ ws, A x.1 := by
  constructor
  · intro h
    refine ⟨?_, fun x hx => by obtain ⟨k, hk⟩ := List.getElem?_of_mem hx; exact h.2 k x hk⟩
    rw [List.Nodup, List.pairwise_iff_getElem]
    intro i j hi hj hij e
    rw [List.length_map] at hi hj
    rw [List.getElem_map, List.getElem_map] at e
    have := h.1 i j ws[i] ws[j] (List.getElem?_eq_getElem hi) (List.getElem?_eq_getElem hj) e
    omega
  · intro h
    refine ⟨fun i j p q hp hq e => ?_, fun k x hk => h.2 x (List.mem_of_getElem? hk)⟩
    have h1 := h.1
    rw [List.Nodup, List.pairwise_iff_getElem] at h1
    obtain ⟨hi, hp⟩ := List.getElem?_eq_some_iff.mp hp
    obtain ⟨hj, hq⟩ := List.getElem?_eq_some_iff.mp hq
    rcases Nat.lt_trichotomy i j with c | c | c
    · exact absurd (show (ws.map (fun x => x.1))[i]'(by rw [List.length_map]; exact hi) = (ws.map (fun x => x.1))[j]'(by rw [List.length_map]; exact hj) by rw [List.getElem_map, List.getElem_map, hp, hq]; exact e) (h1 i j _ _ c)
    · exact c
    · exact absurd (show (ws.map (fun x => x.1))[j]'(by rw [List.length_map]; exact hj) = (ws.map (fun x => x.1))[i]'(by rw [List.length_map]; exact hi) by rw [List.getElem_map, List.getElem_map, hp, hq]; exact e.symm) (h1 j i _ _ c)
theorem vA_iff {ws : va_W} {sz q : Nat} : va_A ws sz q ↔ q ∈ ws.map (fun x => x.1) ∨ sz ≤ q := by
  constructor
  · rintro (⟨k, e, h⟩ | h)
    · exact Or.inl (List.mem_map.mpr ⟨(q, e), List.mem_of_getElem? h, rfl⟩)
    · exact Or.inr h
  · rintro (h | h)
    · obtain ⟨⟨q', e⟩, hx, rfl⟩ := List.mem_map.mp h
      obtain ⟨k, hk⟩ := List.getElem?_of_mem hx
      exact Or.inl ⟨k, e, hk⟩
    · exact Or.inr h
theorem vP_perm {D : va_G} {cl : List vw_C} {ws ws' : va_W} {H : Heap} (h : ws.Perm ws') (hP : va_P D cl ws H) : va_P D cl ws' H :=
  vP_iff.mpr fun x hx => vP_iff.mp hP x (h.mem_iff.mpr hx)
theorem vD_perm {A : Nat → Prop} {ws ws' : va_W} (h : ws.Perm ws') (hD : va_D A ws) : va_D A ws' := by
  obtain ⟨h1, h2⟩ := vD_iff.mp hD
  exact vD_iff.mpr ⟨(h.map _).nodup_iff.mp h1, fun x hx => h2 x (h.mem_iff.mpr hx)⟩
/-- the frame: behind a call the cells that aren't the callee's are as they were -/
theorem frame_app {D : va_G} {cl : List vw_C} {A : Nat → Prop} {L1 W0 L2 W1 : va_W} {H H1 : Heap} (hP : va_P D cl (L1 ++ (W0 ++ L2)) H) (hD : va_D A (L1 ++ (W0 ++ L2)))
    (hk : ∀ q : Nat, q < H.size → ¬ va_A W0 H.size q → H1[q]? = H[q]?) (hF : ∀ q, va_A W0 H.size q → A q) (hP1 : va_P D cl W1 H1) (hD1 : va_D (va_A W0 H.size) W1) :
    va_P D cl (L1 ++ (W1 ++ L2)) H1 ∧ va_D A (L1 ++ (W1 ++ L2)) := by
  rw [vP_iff] at hP hP1
  rw [vD_iff] at hD hD1
  obtain ⟨hn, ha⟩ := hD
  obtain ⟨hn1, ha1⟩ := hD1
  have lt : ∀ x ∈ L1 ++ (W0 ++ L2), x.1 < H.size := fun x hx => (hP x hx).lt
  simp only [List.map_append] at hn
  rw [List.nodup_append] at hn
  obtain ⟨n1, n2, n3⟩ := hn
  rw [List.nodup_append] at n2
  obtain ⟨n4, n5, n6⟩ := n2
  have apart : ∀ x, (x ∈ L1 ∨ x ∈ L2) → ¬ va_A W0 H.size x.1 := by
    intro x hx h
    rcases vA_iff.mp h with h | h
    · rcases hx with hx | hx
      · exact n3 x.1 (List.mem_map.mpr ⟨x, hx, rfl⟩) x.1 (List.mem_append_left _ h) rfl
      · exact n6 x.1 h x.1 (List.mem_map.mpr ⟨x, hx, rfl⟩) rfl
    · have : x.1 < H.size := lt x (by rcases hx with hx | hx <;> simp [hx])
      omega
  refine ⟨vP_iff.mpr fun x hx => ?_, vD_iff.mpr ⟨?_, fun x hx => ?_⟩⟩
  · simp only [List.mem_append] at hx
    rcases hx with hx | hx | hx
    · exact (hP x (by simp [hx])).kept (hk x.1 (lt x (by simp [hx])) (apart x (Or.inl hx)))
    · exact hP1 x hx
    · exact (hP x (by simp [hx])).kept (hk x.1 (lt x (by simp [hx])) (apart x (Or.inr hx)))
  · simp only [List.map_append]
    rw [List.nodup_append]
    refine ⟨n1, List.nodup_append.mpr ⟨hn1, n5, ?_⟩, ?_⟩
    · intro a h1 b h2 e
      subst e
      obtain ⟨x, hx, rfl⟩ := List.mem_map.mp h1
      obtain ⟨y, hy, e⟩ := List.mem_map.mp h2
      exact apart y (Or.inr hy) (by rw [e]; exact ha1 x hx)
    · intro a h1 b h2 e
      subst e
      obtain ⟨y, hy, rfl⟩ := List.mem_map.mp h1
      rcases List.mem_append.mp h2 with h2 | h2
      · obtain ⟨x, hx, e⟩ := List.mem_map.mp h2
        exact apart y (Or.inl hy) (by rw [← e]; exact ha1 x hx)
      · exact n3 y.1 h1 y.1 (List.mem_append_right _ h2) rfl
  · simp only [List.mem_append] at hx
    rcases hx with hx | hx | hx
    · exact ha x (by simp [hx])
    · exact hF _ (ha1 x hx)
    · exact ha x (by simp [hx])
-- the words between nest mates, and of arrays of references
def nwM : List (String × Nat × MethodName × String) := [("HotAisle$Aisle", 11, ⟨"HotAisle$Stuff", "<init>", "()V"⟩, "HotAisle"), ("HotAisle$Aisle", 51, ⟨"HotAisle$Books", "<init>", "()V"⟩, "HotAisle"), ("HotAisle$Books", 11, ⟨"HotAisle$Stuff", "<init>", "()V"⟩, "HotAisle"), ("HotAisle$Vessel", 11, ⟨"HotAisle$Stuff", "<init>", "()V"⟩, "HotAisle"), ("HotAisle$Ladle", 11, ⟨"HotAisle$Stuff", "<init>", "()V"⟩, "HotAisle"), ("HotAisle$Aisle", 87, ⟨"HotAisle", "isBetween", "(III)Z"⟩, "HotAisle"), ("HotAisle$Vessel", 47, ⟨"HotAisle", "isBetween", "(III)Z"⟩, "HotAisle"), ("HotAisle$Vessel", 29, ⟨"HotAisle", "oneIf", "(Z)I"⟩, "HotAisle"), ("HotAisle$Crane", 41, ⟨"HotAisle", "copyRow", "([I[I)V"⟩, "HotAisle")]
def nw (U : State) : Prop := (∀ q ∈ nwM, va_Nw (.methodLinkNest q.1 q.2.1 q.2.2.1 q.2.2.2) U) ∧ va_Nw (.fieldLinkNest "HotAisle$Aisle" 18 "HotAisle" "VESSEL_PLACES" "[I" "HotAisle") U ∧ va_Nw (.fieldLinkNest "HotAisle$Aisle" 28 "HotAisle" "FIRST_LADLE_PLACES" "[I" "HotAisle") U ∧ va_AO "HotAisle$Vessel" U ∧ va_AO "HotAisle$Ladle" U ∧ va_AO "HotAisle$Aisle" U
theorem nw_warm {s U : State} (hW : s.WarmedH U.vm) (h : nw s) : nw U :=
  ⟨fun q hq => va_Nw.warmM hW (h.1 q hq), va_Nw.warmF hW h.2.1, va_Nw.warmF hW h.2.2.1, h.2.2.2.1.moved hW.alike, h.2.2.2.2.1.moved hW.alike, h.2.2.2.2.2.moved hW.alike⟩
theorem nw_same {u U : State} (e : u.vm = U.vm) (h : nw u) : nw U :=
  ⟨fun q hq => va_Nw.same rfl e (h.1 q hq), va_Nw.same rfl e h.2.1, va_Nw.same rfl e h.2.2.1, h.2.2.2.1.moved (e ▸ Vm.Alike.refl u.vm), h.2.2.2.2.1.moved (e ▸ Vm.Alike.refl u.vm), h.2.2.2.2.2.moved (e ▸ Vm.Alike.refl u.vm)⟩
abbrev GG : Type := va_G × (Nat → ClassId)
abbrev tysG (G : GG) : List (ClassId × FieldType) := [(G.2 0, .int), (G.2 1, .object "HotAisle$Vessel"), (G.2 2, .object "HotAisle$Ladle"), (G.2 3, .object "HotAisle$Aisle")]
def Kn (G : GG) (U : State) : Prop := va_K G.1 vwCl (tysG G) U ∧ nw U
def Wo (G : GG) (A : Nat → Prop) (H0 H : Heap) (locs : List Loc) (ws : va_W) : Prop := va_P G.1 vwCl ws H ∧ va_D A ws ∧ va_S A H0 H locs
def Qg (G : GG) (post : Option Value → va_W → Prop) (A : Nat → Prop) : Array Value → State → Outcome → State → Prop := fun _ st oc t => (∃ (v : Option Value) (W1 : va_W), oc = .returned v ∧ post v W1 ∧ va_P G.1 vwCl W1 t.heap ∧ va_D A W1) ∧ va_F A st t
def Ct (l : Launch) (G : GG) (y : MethodName) (cc : ByteArray) (nL : Nat) (ret : Option FieldType) (rm : Room) (args : List Value) (W0 : va_W) (post : Option Value → va_W → Prop) : Prop :=
  ∀ sz : Nat, Met l y (Cond.code y cc nL ret :: bw) rm (va_Pc args (fun U => U.heap.size = sz ∧ va_P G.1 vwCl W0 U.heap ∧ Kn G U ∧ va_D (fun _ => True) W0)) (Qg G post (va_A W0 sz)) rm.cells rm.slots (va_A W0 sz)
def Cx (G : GG) (p : Program) (R : Room) (s : State) (m : MethodId) (args : Array Value) (meth : Method) (c : Code) (own : String) (cc : ByteArray) (nL : Nat) (ret : Option FieldType) (nm : String) (A : Nat → Prop) : Prop :=
  p.tables.exec = Jvm.exec ∧ c.code = cc ∧ c.maxLocals = nL ∧ meth.sig.returnType = ret ∧ meth.locks = false ∧ s.vm.findClass own = some m.cls ∧ (∀ w ∈ bw, w.before args s = true) ∧ meth.name = nm ∧ Kn G s ∧ ∀ q, s.heap.size ≤ q → A q
theorem Ct.mk {l : Launch} {G : GG} {y : MethodName} {cc : ByteArray} {nL : Nat} {ret : Option FieldType} {rm : Room} {args : List Value} {W0 : va_W} {post : Option Value → va_W → Prop} (hy : plainName y.cls = true) (hn : (lg_sl args).length ≤ nL)
    (body : ∀ (p : Program) (e : Env) (s : State) (m : MethodId) (below : List Frame) (meth : Method) (c : Code) (A : Nat → Prop) (H : Heap) (locs : List Loc) (ls : Array Slot), Cx G p rm s m args.toArray meth c y.cls cc nL ret y.name A → Wo G A s.heap H locs W0 → lv_has ls nL (lv_args 0 args) →
      W p l e rm s m args.toArray below meth c H locs 0 0 (MQ below (Qg G post A) args.toArray s rm.cells rm.slots A) (F0 m 0 ls [])) : Ct l G y cc nL ret rm args W0 post := by
  intro sz
  refine Met.ofW (cc := cc) (maxL := nL) (ret := ret) hy rfl ?_
  intro p e s m args' below meth c s₁ B hml hv
  obtain ⟨rfl, hsz, hP, hK, hD0⟩ := hv
  have hts := atoms_spec (ws := Cond.code y cc nL ret :: bw) B.pre
  have hl := lv_entry args (n := nL) hn
  rw [lg_entry_eq]
  subst hsz
  exact body p e s m below meth c (va_A W0 s.heap.size) s.heap [] _ ⟨B.exec, B.bytes, hml, B.returns, B.notSynchronized, findClass_of_methodNamed B.named, fun w hw => hts w (List.mem_cons_of_mem _ hw), (name_of_methodNamed B.named B.method).1, hK, fun q h => Or.inr h⟩ ⟨hP, hD0.self, va_S.rf⟩ hl
section RET
variable {G : GG} {p : Program} {l : Launch} {e : Env} {R : Room} {s : State} {m : MethodId} {args : Array Value} {below : List Frame} {meth : Method} {c : Code} {H : Heap} {locs : List Loc} {cells slots : Nat} {own : String} {cc : ByteArray} {nL : Nat} {ret : Option FieldType} {nm : String} {A : Nat → Prop} {W1 : va_W} {post : Option Value → va_W → Prop} {pc : Nat} {ls : Array Slot}
theorem rt_q {v : Option Value} (wo : Wo G A s.heap H locs W1) (hp : post v W1) : ∀ t : State, t.heap = H → s.WarmedH t.vm → Qg G post A args s (.returned v) t :=
  fun t ht _ => ⟨⟨v, W1, rfl, hp, by rw [ht]; exact wo.1, wo.2.1⟩, wo.2.2.F ht⟩
theorem rt_i {v : Int32} (cx : Cx G p R s m args meth c own cc nL (some .int) nm A) (wo : Wo G A s.heap H locs W1) (hd : decode cc pc = .ok (.ireturn, 1)) (hp : post (some (.int v)) W1) : W p l e R s m args below meth c H locs cells slots (MQ below (Qg G post A) args s cells slots A) (F0 m pc ls [.int v]) :=
  W.iret cx.1 cx.2.1 cx.2.2.2.1 (rt_q wo hp) wo.2.2.2.2 hd cx.2.2.2.2.1
def bi (b : Bool) : Int32 := if b then 1 else 0
theorem bi_nar (b : Bool) : narrow .boolean (.int (bi b)) = .int (bi b) := by cases b <;> rfl
theorem rt_z {b : Bool} (cx : Cx G p R s m args meth c own cc nL (some .boolean) nm A) (wo : Wo G A s.heap H locs W1) (hd : decode cc pc = .ok (.ireturn, 1)) (hp : post (some (.int (bi b))) W1) : W p l e R s m args below meth c H locs cells slots (MQ below (Qg G post A) args s cells slots A) (F0 m pc ls [.int (bi b)]) :=
  W.zret cx.1 cx.2.1 cx.2.2.2.1 (bi_nar b) (rt_q wo hp) wo.2.2.2.2 hd cx.2.2.2.2.1
theorem rt_v (cx : Cx G p R s m args meth c own cc nL none nm A) (wo : Wo G A s.heap H locs W1) (hd : decode cc pc = .ok (.return_, 1)) (hp : post none W1) : W p l e R s m args below meth c H locs cells slots (MQ below (Qg G post A) args s cells slots A) (F0 m pc ls []) :=
  W.vret cx.1 cx.2.1 cx.2.2.2.1 (rt_q wo hp) wo.2.2.2.2 hd cx.2.2.2.2.1
theorem rt_a {C : String} {r : Option Nat} (cx : Cx G p R s m args meth c own cc nL (some (.object C)) nm A) (wo : Wo G A s.heap H locs W1) (hd : decode cc pc = .ok (.areturn, 1)) (hp : post (some (va_rf r)) W1) : W p l e R s m args below meth c H locs cells slots (MQ below (Qg G post A) args s cells slots A) (F0 m pc ls [va_rf r]) :=
  W.aret cx.1 cx.2.1 cx.2.2.2.1 (Or.inl ⟨_, rfl⟩) (by cases r with | none => exact Or.inl rfl | some a => exact Or.inr ⟨a, rfl⟩) (rt_q wo hp) wo.2.2.2.2 hd cx.2.2.2.2.1
end RET
end
section
/-! calls: one rule a kind, with the frame 'fr' around the callee's cells -/
def Fr (fr : va_W → va_W) : Prop := ∃ L1 L2 : va_W, ∀ X, fr X = L1 ++ (X ++ L2)
theorem Fr_id : Fr (fun X => X) := ⟨[], [], fun X => by simp⟩
theorem Fr_cons (x : Nat × va_E) : Fr (fun X => x :: X) := ⟨[x], [], fun X => by simp⟩
def Fx (y : MethodName) (cc : ByteArray) (nL : Nat) (ret : Option FieldType) (n : Nat) : Prop := Cond.code y cc nL ret ∈ bw ∧ Cond.initialized y.cls ∈ bw ∧ (y.cls ≠ "java/lang/invoke/MethodHandle" ∧ y.cls ≠ "java/lang/invoke/VarHandle" ∧ (parseMethodDescriptor y.desc).map (fun d => d.parameters.length) = some n)
theorem gI {y : MethodName} {cc : ByteArray} {nL : Nat} {ret : Option FieldType} (h : Cond.code y cc nL ret ∈ bw) : GoodIn bw (Cond.code y cc nL ret :: bw) := by
  intro w hw
  have : w ∈ bw := by
    rcases List.mem_cons.mp hw with rfl | hw
    · exact h
    · exact hw
  exact ⟨this, good_of_word (bw_good this)⟩
section RUN
variable {G : GG} {p : Program} {l : Launch} {e : Env} {R : Room} {s : State} {m : MethodId} {args : Array Value} {below : List Frame} {meth : Method} {c : Code} {H : Heap} {locs : List Loc} {cells slots : Nat} {own : String} {cc : ByteArray} {nL : Nat} {rt : Option FieldType} {nm : String} {A : Nat → Prop} {W0 : va_W} {post : Option Value → va_W → Prop} {pc : Nat} {ls : Array Slot} {st0 rest : List Value} {Q : State → Prop} {fr : va_W → va_W} {mc ms : Nat}
theorem run_go {a : Array Value} (hfr : Fr fr) (hr : va_Run p l e R s m args below meth c H locs cells slots mc ms (F0 m pc ls st0) rest (Qg G post (va_A W0 H.size) a) (va_A W0 H.size)) (wo : Wo G A s.heap H locs (fr W0)) (hA : ∀ q, s.heap.size ≤ q → A q)
    (kk : ∀ (v : Option Value) (W1 : va_W) (H1 : Heap) (locs1 : List Loc), post v W1 → Wo G A s.heap H1 locs1 (fr W1) → W p l e R s m args below meth c H1 locs1 (cells + mc) (slots + ms) Q (F0 m (pc + 3) ls (v.toList ++ rest))) : W p l e R s m args below meth c H locs cells slots Q (F0 m pc ls st0) := by
  obtain ⟨L1, L2, hfr⟩ := hfr
  obtain ⟨hP, hD, hS⟩ := wo
  rw [hfr] at hP hD
  have hF : ∀ q, va_A W0 H.size q → A q := by
    intro q h
    rcases vA_iff.mp h with h | h
    · obtain ⟨x, hx, rfl⟩ := List.mem_map.mp h
      exact (vD_iff.mp hD).2 x (by simp [hx])
    · exact hA q (Nat.le_trans hS.1 h)
  intro T hT X
  obtain ⟨v, st₀, t, T', L, h0, X', hL, e1, e2, ⟨⟨v', W1, hv, hp, hP1, hD1⟩, hz, hk⟩, st⟩ := hr T hT X
  cases hv
  rw [h0] at hz hk
  have hk' : ∀ q : Nat, q < H.size → ¬ va_A W0 H.size q → T'.heap[q]? = H[q]? := fun q h1 h2 => by rw [e1]; exact hk q h1 h2
  have hj := frame_app hP hD hk' hF (by rw [e1]; exact hP1) hD1
  have hS1 : va_S A s.heap T'.heap (locs ++ L) := ⟨Nat.le_trans hS.1 (by rw [e1]; exact hz), fun q h1 h2 => by rw [e1, hk q (Nat.lt_of_lt_of_le h1 hS.1) (fun z => h2 (hF q z))]; exact hS.2.1 q h1 h2, fun q hq => by
    rcases List.mem_append.mp hq with h | h
    · exact hS.2.2 q h
    · exact hF _ (hL q h)⟩
  obtain ⟨t2, a1, b1⟩ := kk v W1 T'.heap (locs ++ L) hp ⟨by rw [hfr]; exact hj.1, by rw [hfr]; exact hj.2, hS1⟩ T' rfl X'
  exact ⟨t2, st t2 a1, b1⟩
theorem fr_in (hfr : Fr fr) {D : va_G} {cl : List vw_C} (hP : va_P D cl (fr W0) H) : va_P D cl W0 H := by
  obtain ⟨L1, L2, hfr⟩ := hfr
  rw [hfr] at hP
  exact vP_iff.mpr fun x hx => vP_iff.mp hP x (by simp [hx])
theorem fr_inD (hfr : Fr fr) {B : Nat → Prop} (hD : va_D B (fr W0)) : va_D (fun _ => True) W0 := by
  obtain ⟨L1, L2, hfr⟩ := hfr
  rw [hfr] at hD
  have h := vD_iff.mp hD
  refine vD_iff.mpr ⟨?_, fun _ _ => trivial⟩
  have h1 := h.1
  simp only [List.map_append] at h1
  exact (List.nodup_append.mp (List.nodup_append.mp h1).2.1).1
variable {y : MethodName} {cb : ByteArray} {nb : Nat} {ret : Option FieldType} {rmb : Room} {b : Addr} {As : List Value} {idx n : Nat} {host : String}
theorem pre_bl {argl : List Value} {sz : Nat} : FrameBlind (va_Pc argl (fun U => U.heap.size = sz ∧ va_P G.1 vwCl W0 U.heap ∧ Kn G U ∧ va_D (fun _ => True) W0)) :=
  fun a U g mk q => ⟨q.1, q.2.1, q.2.2.1, ⟨va_K.moved (u := U) (U := U.calling g mk a) (Vm.Alike.refl U.vm) q.2.2.2.1.1, nw_same rfl q.2.2.2.1.2⟩, q.2.2.2.2⟩
theorem pre_U {argl : List Value} (hfr : Fr fr) (kn : Kn G s) (wo : Wo G A s.heap H locs (fr W0)) : ∀ U : State, U.heap = H → s.WarmedH U.vm → va_Pc argl (fun U => U.heap.size = H.size ∧ va_P G.1 vwCl W0 U.heap ∧ Kn G U ∧ va_D (fun _ => True) W0) argl.toArray U :=
  fun U hU hW => ⟨rfl, by rw [hU], by rw [hU]; exact fr_in hfr wo.1, ⟨va_K.moved hW.alike kn.1, nw_warm hW kn.2⟩, fr_inD hfr wo.2.1⟩
theorem call_V {k ci : Nat} {fs : List Value} {q : vw_C} (fr : va_W → va_W) (hfr : Fr fr) (cx : Cx G p R s m args meth c own cc nL rt nm A) (hct : Ct l G y cb nb ret rmb (.ref b :: As) W0 post) (fx : Fx y cb nb ret n) (h1 : Cond.methodLink own idx y ∈ bw) (h2 : Cond.instanceMethod y ∈ bw) (h3 : Cond.selects y.cls y y ∈ bw)
    (hR : rmb.frames + 1 ≤ R.frames ∧ 8 + (nb + 11) + rmb.locals ≤ R.locals) (wo : Wo G A s.heap H locs (fr W0)) (hk : W0[k]? = some (b, .inr (ci, fs))) (hq : vwCl[ci]? = some q) (hqc : q.1 = y.cls) (hn : As.length = n) (hls : ls.size = nL) (hst : st0 = As.reverse ++ .ref b :: rest) (hw : (rest.map fun v => v.category).sum ≤ 8)
    (hdg : decode cc pc = .ok (.invokevirtual idx, 3)) (hf : cells + rmb.cells ≤ R.cells ∧ slots + rmb.slots ≤ R.slots)
    (kk : ∀ (v : Option Value) (W1 : va_W) (H1 : Heap) (locs1 : List Loc), post v W1 → Wo G A s.heap H1 locs1 (fr W1) → W p l e R s m args below meth c H1 locs1 (cells + rmb.cells) (slots + rmb.slots) Q (F0 m (pc + 3) ls (v.toList ++ rest))) : W p l e R s m args below meth c H locs cells slots Q (F0 m pc ls st0) := by
  obtain ⟨hx, hb, hml, hr, hlo, hown, hts, hnm, kn, hA⟩ := cx
  obtain ⟨f1, f2, f3⟩ := fx
  refine run_go hfr (va_runV (As := As) (rest := rest) (b := b) ⟨hx, hb, hml, hown, hts⟩ (hct H.size) ⟨callB_of n hts (gI f1) rfl rfl rfl (hts _ f2) (hts _ h1) f3 hR, hts _ h2, hts _ h3⟩ ⟨pre_bl, ?_, pre_U hfr kn wo⟩ rfl hn hls hst (lv_room hw) hdg hf) wo hA kk
  have := va_recv kn.1 (fr_in hfr wo.1) hq hk
  rw [hqc] at this
  exact this
theorem call_S (fr : va_W → va_W) (hfr : Fr fr) (cx : Cx G p R s m args meth c own cc nL rt nm A) (hct : Ct l G y cb nb ret rmb As W0 post) (fx : Fx y cb nb ret n) (h1 : Cond.methodLink own idx y ∈ bw) (h2 : Cond.static y ∈ bw)
    (hR : rmb.frames + 1 ≤ R.frames ∧ 8 + (nb + 11) + rmb.locals ≤ R.locals) (wo : Wo G A s.heap H locs (fr W0)) (hn : As.length = n) (hls : ls.size = nL) (hst : st0 = As.reverse ++ rest) (hw : (rest.map fun v => v.category).sum ≤ 8)
    (hdg : decode cc pc = .ok (.invokestatic idx, 3)) (hf : cells + rmb.cells ≤ R.cells ∧ slots + rmb.slots ≤ R.slots)
    (kk : ∀ (v : Option Value) (W1 : va_W) (H1 : Heap) (locs1 : List Loc), post v W1 → Wo G A s.heap H1 locs1 (fr W1) → W p l e R s m args below meth c H1 locs1 (cells + rmb.cells) (slots + rmb.slots) Q (F0 m (pc + 3) ls (v.toList ++ rest))) : W p l e R s m args below meth c H locs cells slots Q (F0 m pc ls st0) := by
  obtain ⟨hx, hb, hml, hr, hlo, hown, hts, hnm, kn, hA⟩ := cx
  obtain ⟨f1, f2, f3⟩ := fx
  exact run_go hfr (va_runS (As := As) (rest := rest) ⟨hx, hb, hml, hown, hts⟩ (hct H.size) ⟨callB_of n hts (gI f1) rfl rfl rfl (hts _ f2) (hts _ h1) f3 hR, hts _ h2⟩ ⟨pre_bl, pre_U hfr kn wo⟩ rfl hn hls hst (lv_room hw) hdg hf) wo hA kk
theorem call_SN (fr : va_W → va_W) (hfr : Fr fr) (cx : Cx G p R s m args meth c own cc nL rt nm A) (hct : Ct l G y cb nb ret rmb As W0 post) (fx : Fx y cb nb ret n) (h1 : (own, idx, y, host) ∈ nwM) (h2 : Cond.static y ∈ bw)
    (hR : rmb.frames + 1 ≤ R.frames ∧ 8 + (nb + 11) + rmb.locals ≤ R.locals) (wo : Wo G A s.heap H locs (fr W0)) (hn : As.length = n) (hls : ls.size = nL) (hst : st0 = As.reverse ++ rest) (hw : (rest.map fun v => v.category).sum ≤ 8)
    (hdg : decode cc pc = .ok (.invokestatic idx, 3)) (hf : cells + rmb.cells ≤ R.cells ∧ slots + rmb.slots ≤ R.slots)
    (kk : ∀ (v : Option Value) (W1 : va_W) (H1 : Heap) (locs1 : List Loc), post v W1 → Wo G A s.heap H1 locs1 (fr W1) → W p l e R s m args below meth c H1 locs1 (cells + rmb.cells) (slots + rmb.slots) Q (F0 m (pc + 3) ls (v.toList ++ rest))) : W p l e R s m args below meth c H locs cells slots Q (F0 m pc ls st0) := by
  obtain ⟨hx, hb, hml, hr, hlo, hown, hts, hnm, kn, hA⟩ := cx
  obtain ⟨f1, f2, f3⟩ := fx
  exact run_go hfr (va_runSN (As := As) (rest := rest) ⟨hx, hb, hml, hown, hts⟩ (hct H.size) ⟨va_cnB n hts (gI f1) rfl rfl rfl (kn.2.1 _ h1) (hts _ f2) f3 hR, hts _ h2, trivial⟩ ⟨pre_bl, pre_U hfr kn wo⟩ rfl hn hls hst (lv_room hw) hdg hf) wo hA kk
theorem call_I (fr : va_W → va_W) (hfr : Fr fr) (cx : Cx G p R s m args meth c own cc nL rt nm A) (hct : Ct l G y cb nb none rmb (.ref b :: As) W0 post) (fx : Fx y cb nb none n) (h1 : Cond.methodLink own idx y ∈ bw) (h2 : Cond.instanceMethod y ∈ bw) (hy : y.name = "<init>")
    (hR : rmb.frames + 1 ≤ R.frames ∧ 8 + (nb + 11) + rmb.locals ≤ R.locals) (wo : Wo G A s.heap H locs (fr W0)) (hn : As.length = n) (hls : ls.size = nL) (hst : st0 = As.reverse ++ .ref b :: rest) (hw : (rest.map fun v => v.category).sum ≤ 8)
    (hdg : decode cc pc = .ok (.invokespecial idx, 3)) (hf : cells + rmb.cells ≤ R.cells ∧ slots + rmb.slots ≤ R.slots)
    (kk : ∀ (v : Option Value) (W1 : va_W) (H1 : Heap) (locs1 : List Loc), post v W1 → Wo G A s.heap H1 locs1 (fr W1) → W p l e R s m args below meth c H1 locs1 (cells + rmb.cells) (slots + rmb.slots) Q (F0 m (pc + 3) ls (v.toList ++ rest))) : W p l e R s m args below meth c H locs cells slots Q (F0 m pc ls st0) := by
  obtain ⟨hx, hb, hml, hr, hlo, hown, hts, hnm, kn, hA⟩ := cx
  obtain ⟨f1, f2, f3⟩ := fx
  exact run_go hfr (va_runI (As := As) (rest := rest) (b := b) ⟨hx, hb, hml, hown, hts⟩ (hct H.size) ⟨callB_of n hts (gI f1) rfl rfl rfl (hts _ f2) (hts _ h1) f3 hR, hy, hts _ h2⟩ ⟨pre_bl, pre_U hfr kn wo⟩ rfl hn hls hst (lv_room hw) hdg hf) wo hA kk
theorem call_IN (fr : va_W → va_W) (hfr : Fr fr) (cx : Cx G p R s m args meth c own cc nL rt nm A) (hct : Ct l G y cb nb none rmb (.ref b :: As) W0 post) (fx : Fx y cb nb none n) (h1 : (own, idx, y, host) ∈ nwM) (h2 : Cond.instanceMethod y ∈ bw) (hy : y.name = "<init>")
    (hR : rmb.frames + 1 ≤ R.frames ∧ 8 + (nb + 11) + rmb.locals ≤ R.locals) (wo : Wo G A s.heap H locs (fr W0)) (hn : As.length = n) (hls : ls.size = nL) (hst : st0 = As.reverse ++ .ref b :: rest) (hw : (rest.map fun v => v.category).sum ≤ 8)
    (hdg : decode cc pc = .ok (.invokespecial idx, 3)) (hf : cells + rmb.cells ≤ R.cells ∧ slots + rmb.slots ≤ R.slots)
    (kk : ∀ (v : Option Value) (W1 : va_W) (H1 : Heap) (locs1 : List Loc), post v W1 → Wo G A s.heap H1 locs1 (fr W1) → W p l e R s m args below meth c H1 locs1 (cells + rmb.cells) (slots + rmb.slots) Q (F0 m (pc + 3) ls (v.toList ++ rest))) : W p l e R s m args below meth c H locs cells slots Q (F0 m pc ls st0) := by
  obtain ⟨hx, hb, hml, hr, hlo, hown, hts, hnm, kn, hA⟩ := cx
  obtain ⟨f1, f2, f3⟩ := fx
  exact run_go hfr (va_runIN (As := As) (rest := rest) (b := b) ⟨hx, hb, hml, hown, hts⟩ (hct H.size) ⟨va_cnB n hts (gI f1) rfl rfl rfl (kn.2.1 _ h1) (hts _ f2) f3 hR, hy, hts _ h2⟩ ⟨pre_bl, pre_U hfr kn wo⟩ rfl hn hls hst (lv_room hw) hdg hf) wo hA kk
-- small rows
theorem tope {x y : Int32} (h : x = y) (k : W p l e R s m args below meth c H locs cells slots Q (F0 m pc ls (.int y :: rest))) : W p l e R s m args below meth c H locs cells slots Q (F0 m pc ls (.int x :: rest)) := by rw [h]; exact k
theorem topv {x y : Value} (h : x = y) (k : W p l e R s m args below meth c H locs cells slots Q (F0 m pc ls (y :: rest))) : W p l e R s m args below meth c H locs cells slots Q (F0 m pc ls (x :: rest)) := by rw [h]; exact k
theorem if_eq_b {bb : Bool} {off : Int} {tgt : Nat} (hexec : p.tables.exec = Jvm.exec) (hb : c.code = cc) (hdg : decode cc pc = .ok (.ifCond .eq off, 3)) (ht : (pc : Int) + off = (tgt : Int))
    (kf : ¬ bb = true → W p l e R s m args below meth c H locs cells slots Q (F0 m tgt ls rest)) (kt : bb = true → W p l e R s m args below meth c H locs cells slots Q (F0 m (pc + 3) ls rest)) : W p l e R s m args below meth c H locs cells slots Q (F0 m pc ls (.int (bi bb) :: rest)) := by
  cases bb with
  | true => exact lv_if_eq hexec hb hdg ht (fun h => absurd h (by decide)) (fun _ => kt rfl)
  | false => exact lv_if_eq hexec hb hdg ht (fun _ => kf (by decide)) (fun h => absurd (show bi false = 0 from rfl) h)
theorem if_ne_b {bb : Bool} {off : Int} {tgt : Nat} (hexec : p.tables.exec = Jvm.exec) (hb : c.code = cc) (hdg : decode cc pc = .ok (.ifCond .ne off, 3)) (ht : (pc : Int) + off = (tgt : Int))
    (kt : bb = true → W p l e R s m args below meth c H locs cells slots Q (F0 m tgt ls rest)) (kf : ¬ bb = true → W p l e R s m args below meth c H locs cells slots Q (F0 m (pc + 3) ls rest)) : W p l e R s m args below meth c H locs cells slots Q (F0 m pc ls (.int (bi bb) :: rest)) := by
  cases bb with
  | true => exact lv_if_ne hexec hb hdg ht (fun _ => kt rfl) (fun h => absurd (show bi true = 0 from h) (by decide))
  | false => exact lv_if_ne hexec hb hdg ht (fun h => absurd (show bi false = 0 from rfl) h) (fun _ => kf (by decide))
end RUN
theorem ai {x y : Int32} {a b n : Nat} (hx : x = nI a) (hy : y = nI b) (h : a + b = n) : x + y = nI n := by rw [hx, hy, nI_add, h]
theorem mi {x y : Int32} {a b n : Nat} (hx : x = nI a) (hy : y = nI b) (h : a * b = n) : x * y = nI n := by rw [hx, hy, pk_mul, h]
theorem si {x y : Int32} {a b n : Nat} (hx : x = nI a) (hy : y = nI b) (h : b ≤ a) (h2 : a - b = n) : x - y = nI n := by rw [hx, hy, pk_sub h, h2]

/-! the aisle: 35 cells; g holds all its numbers -/
abbrev St : Type := Nat → Int32
def ac (G : GG) (ad : Nat → Nat) (g : St) (j : Nat) : va_E :=
  if j = 12 then .inr (0, [.ref (ad 0), .ref (ad 29), .ref (ad 30), .ref (ad 26), .ref (ad 27), .ref (ad 28), .int (g 48), .int (g 148), .int (g 149)])
  else if j < 19 then .inr (4, [.int (g (4 * j)), .int (g (4 * j + 1)), .int (g (4 * j + 2)), .int (g (4 * j + 3))])
  else if j < 22 then .inr (5, [.int (nI (4 * (j - 19) + 4)), .ref (ad (1 + (j - 19))), .int (g (76 + (j - 19))), .int (g (82 + (j - 19))), .int (g (85 + (j - 19))), .int (g (79 + (j - 19)))])
  else if j < 26 then .inr (3, [.ref (ad (4 + (j - 22))), .ref (ad (8 + (j - 22))), .int (g (88 + (j - 22))), .int (g (92 + (j - 22))), .int (g (96 + (j - 22)))])
  else if j < 28 then .inr (2, [.int (nI (j - 26)), .ref (ad (31 + (j - 26))), .ref (ad (33 + (j - 26))), .int (g (100 + (j - 26))), .int (g (104 + (j - 26))), .int (g (106 + (j - 26)))])
  else if j = 28 then .inr (1, [.ref (ad 13), .ref (ad 14), .ref (ad 15), .ref (ad 16), .ref (ad 17), .ref (ad 18), .int (g 140), .int (g 142), .int (g 143), .int (g 144), .int (g 145), .int (g 146)])
  else if j = 29 then .inl (G.2 1, 3, .inr (.inr (.inr (.inr (fun i => some (ad (19 + i)))))))
  else if j = 30 then .inl (G.2 2, 4, .inr (.inr (.inr (.inr (fun i => some (ad (22 + i)))))))
  else if j < 33 then .inl (G.2 0, 8, .inl (fun i => if i < 8 then g (108 + 16 * (j - 31) + 2 * i) else 0))
  else .inl (G.2 0, 8, .inl (fun i => if i < 8 then g (108 + 16 * (j - 33) + 2 * i + 1) else 0))
def aw (G : GG) (ad : Nat → Nat) (g : St) : va_W := (List.range 35).map (fun j => (ad j, ac G ad g j))
theorem aw_len (G : GG) (ad : Nat → Nat) (g : St) : (aw G ad g).length = 35 := by simp [aw]
theorem aw_at (G : GG) (ad : Nat → Nat) (g : St) {j : Nat} (h : j < 35) : (aw G ad g)[j]? = some (ad j, ac G ad g j) := by
  simp [aw, List.getElem?_map, List.getElem?_range h]
/-- which numbers a cell reads -/
def rd (j i : Nat) : Prop :=
  if j = 12 then i = 48 ∨ i = 148 ∨ i = 149
  else if j < 19 then 4 * j ≤ i ∧ i < 4 * j + 4
  else if j < 22 then i = 76 + (j - 19) ∨ i = 79 + (j - 19) ∨ i = 82 + (j - 19) ∨ i = 85 + (j - 19)
  else if j < 26 then i = 88 + (j - 22) ∨ i = 92 + (j - 22) ∨ i = 96 + (j - 22)
  else if j < 28 then i = 100 + (j - 26) ∨ i = 104 + (j - 26) ∨ i = 106 + (j - 26)
  else if j = 28 then i = 140 ∨ (142 ≤ i ∧ i ≤ 146)
  else if j < 31 then False
  else if j < 33 then 108 + 16 * (j - 31) ≤ i ∧ i < 124 + 16 * (j - 31) ∧ i % 2 = 0
  else 108 + 16 * (j - 33) ≤ i ∧ i < 124 + 16 * (j - 33) ∧ i % 2 = 1
theorem ac_frame (G : GG) (ad : Nat → Nat) {g g' : St} {j : Nat} (h : ∀ i, rd j i → g' i = g i) : ac G ad g' j = ac G ad g j := by
  unfold ac
  unfold rd at h
  by_cases c1 : j = 12
  · simp only [c1, if_true] at h ⊢
    rw [h 48 (by simp), h 148 (by simp), h 149 (by simp)]
  simp only [c1, if_false] at h ⊢
  by_cases c2 : j < 19
  · simp only [c2, if_true] at h ⊢
    rw [h (4 * j) (by omega), h (4 * j + 1) (by omega), h (4 * j + 2) (by omega), h (4 * j + 3) (by omega)]
  simp only [c2, if_false] at h ⊢
  by_cases c3 : j < 22
  · simp only [c3, if_true] at h ⊢
    rw [h (76 + (j - 19)) (by omega), h (79 + (j - 19)) (by omega), h (82 + (j - 19)) (by omega), h (85 + (j - 19)) (by omega)]
  simp only [c3, if_false] at h ⊢
  by_cases c4 : j < 26
  · simp only [c4, if_true] at h ⊢
    rw [h (88 + (j - 22)) (by omega), h (92 + (j - 22)) (by omega), h (96 + (j - 22)) (by omega)]
  simp only [c4, if_false] at h ⊢
  by_cases c5 : j < 28
  · simp only [c5, if_true] at h ⊢
    rw [h (100 + (j - 26)) (by omega), h (104 + (j - 26)) (by omega), h (106 + (j - 26)) (by omega)]
  simp only [c5, if_false] at h ⊢
  by_cases c6 : j = 28
  · simp only [c6, if_true] at h ⊢
    rw [h 140 (by omega), h 142 (by omega), h 143 (by omega), h 144 (by omega), h 145 (by omega), h 146 (by omega)]
  simp only [c6, if_false] at h ⊢
  by_cases c7 : j = 29
  · simp only [c7, if_true]
  simp only [c7, if_false]
  by_cases c8 : j = 30
  · simp only [c8, if_true]
  simp only [c8, if_false]
  have c9 : ¬ j < 31 := by omega
  simp only [c9, if_false] at h
  by_cases ca : j < 33
  · simp only [ca, if_true] at h ⊢
    have : (fun i : Nat => if i < 8 then g' (108 + 16 * (j - 31) + 2 * i) else 0) = (fun i : Nat => if i < 8 then g (108 + 16 * (j - 31) + 2 * i) else 0) := by
      funext i
      by_cases hi : i < 8
      · simp only [hi, if_true]; exact h _ (by omega)
      · simp only [hi, if_false]
    rw [this]
  simp only [ca, if_false] at h ⊢
  have : (fun i : Nat => if i < 8 then g' (108 + 16 * (j - 33) + 2 * i + 1) else 0) = (fun i : Nat => if i < 8 then g (108 + 16 * (j - 33) + 2 * i + 1) else 0) := by
    funext i
    by_cases hi : i < 8
    · simp only [hi, if_true]; exact h _ (by omega)
    · simp only [hi, if_false]
  rw [this]
theorem aw_set (G : GG) (ad : Nat → Nat) {g g' : St} {j : Nat} {e : va_E} (he : ac G ad g' j = e) (hf : ∀ k, k < 35 → k ≠ j → ac G ad g' k = ac G ad g k) : (aw G ad g).set j (ad j, e) = aw G ad g' := by
  refine List.ext_getElem? fun k => ?_
  by_cases hk : k < 35
  · rw [List.getElem?_set]
    by_cases hj : j = k
    · subst hj
      rw [if_pos rfl, if_pos (by rw [aw_len]; exact hk), aw_at G ad g' hk, he]
    · rw [if_neg hj, aw_at G ad g hk, aw_at G ad g' hk, hf k hk (fun q => hj q.symm)]
  · rw [List.getElem?_eq_none (by rw [List.length_set, aw_len]; omega), List.getElem?_eq_none (by rw [aw_len]; omega)]
theorem aw_upd (G : GG) (ad : Nat → Nat) {g : St} {j i : Nat} {x : Int32} {e : va_E} (he : ac G ad (upd g i x) j = e) (hf : ∀ k, k < 35 → k ≠ j → ¬ rd k i) : (aw G ad g).set j (ad j, e) = aw G ad (upd g i x) :=
  aw_set G ad he fun k h1 h2 => ac_frame G ad fun q hq => pk_un (fun z => hf k h1 h2 (z ▸ hq))
theorem fr_set {fr : va_W → va_W} {L1 L2 : va_W} (hfr : ∀ X, fr X = L1 ++ (X ++ L2)) {X : va_W} {j : Nat} (hj : j < X.length) (x : Nat × va_E) : (fr X).set (L1.length + j) x = fr (X.set j x) := by
  rw [hfr, hfr, List.set_append, if_neg (by omega), Nat.add_sub_cancel_left, List.set_append, if_pos hj]
theorem fr_get {fr : va_W → va_W} {L1 L2 : va_W} (hfr : ∀ X, fr X = L1 ++ (X ++ L2)) {X : va_W} {j : Nat} {x : Nat × va_E} (hj : X[j]? = some x) : (fr X)[L1.length + j]? = some x := by
  rw [hfr, List.getElem?_append_right (by omega), Nat.add_sub_cancel_left, List.getElem?_append_left (List.getElem?_eq_some_iff.mp hj).1, hj]
section AW
variable {G : GG} {p : Program} {l : Launch} {e : Env} {R : Room} {s : State} {m : MethodId} {args : Array Value} {below : List Frame} {meth : Method} {c : Code} {H : Heap} {locs : List Loc} {cells slots : Nat} {own : String} {cc : ByteArray} {nL : Nat} {rt : Option FieldType} {nm : String} {A : Nat → Prop} {pc : Nat} {ls : Array Slot} {rest : List Value} {Q : State → Prop} {fr : va_W → va_W} {ad : Nat → Nat} {g : St} {index : Nat} {x : Int32}
theorem gf {X : va_W} {a : Nat} (fr : va_W → va_W) (hfr : Fr fr) (cx : Cx G p R s m args meth c own cc nL rt nm A) (wo : Wo G A s.heap H locs (fr X)) {ci j k N : Nat} {C : String} {T : u_T} {fs : List Value} {v : Value} (he : X[j]? = some (a, .inr (ci, fs))) (hc : vwCl[ci]? = some (C, T, N)) (hk : k < N) (hin : ∀ w ∈ u_ws C T N, w ∈ bw) (hC : (T k).1 = C) (hl : Cond.fieldLink own index C (T k).2.1 (T k).2.2.1 ∈ bw) (hv : fs[k]? = some v) (hdg : decode cc pc = .ok (.getfield index, 3))
    (kk : W p l e R s m args below meth c H locs cells slots Q (F0 m (pc + 3) ls (v :: rest))) : W p l e R s m args below meth c H locs cells slots Q (F0 m pc ls (.ref a :: rest)) := by
  obtain ⟨L1, L2, hfr⟩ := hfr
  exact va_get cx.1 cx.2.1 cx.2.2.2.2.2.2.1 hin cx.2.2.2.2.2.1 cx.2.2.2.2.2.2.2.2.1.1 wo.1 _ (fr_get hfr he) hc k hk (cx.2.2.2.2.2.2.1 _ hl) (fun _ h => by rw [hC] at h; exact h) hv hdg kk
theorem pf {i : Nat} (fr : va_W → va_W) (hfr : Fr fr) (cx : Cx G p R s m args meth c own cc nL rt nm A) (wo : Wo G A s.heap H locs (fr (aw G ad g))) {ci j k N : Nat} {C : String} {T : u_T} {fs : List Value} {ty : FieldType} (hj : j < 35) (he : ac G ad g j = .inr (ci, fs)) (hc : vwCl[ci]? = some (C, T, N)) (hk : k < N) (hin : ∀ w ∈ u_ws C T N, w ∈ bw) (ty0 : Nat → FieldType) (hty : ∀ k, k < N → parseFieldDescriptor (T k).2.2.1 = some (ty0 k)) (hnm : ∀ a, a < N → ∀ b, b < N → a ≠ b → (T a).2.1 ≠ (T b).2.1) (hC : (T k).1 = C) (hl : Cond.fieldLink own index C (T k).2.1 (T k).2.2.1 ∈ bw) (hfin : (T k).2.2.2 = false) (hd : parseFieldDescriptor (T k).2.2.1 = some ty) (hn : narrow ty (.int x) = .int x) (hfit : fits ty (.int x) = true) (hlen : k < fs.length)
    (he' : ac G ad (upd g i x) j = .inr (ci, fs.set k (.int x))) (hf : ∀ k, k < 35 → k ≠ j → ¬ rd k i) (hdg : decode cc pc = .ok (.putfield index, 3))
    (kk : ∀ (H1 : Heap) (locs1 : List Loc) (g1 : St), g1 = upd g i x → Wo G A s.heap H1 locs1 (fr (aw G ad g1)) → W p l e R s m args below meth c H1 locs1 cells slots Q (F0 m (pc + 3) ls rest)) : W p l e R s m args below meth c H locs cells slots Q (F0 m pc ls (.int x :: .ref (ad j) :: rest)) := by
  obtain ⟨L1, L2, hfr⟩ := hfr
  have hat : (aw G ad g)[j]? = some (ad j, .inr (ci, fs)) := by rw [aw_at G ad g hj, he]
  refine va_put cx.1 cx.2.1 cx.2.2.2.2.2.2.1 hin ty0 hty hnm cx.2.2.2.2.2.1 cx.2.2.2.2.2.2.2.2.1.1 wo.1 wo.2.1 wo.2.2 (L1.length + j) (fr_get hfr hat) hc k hk (cx.2.2.2.2.2.2.1 _ hl) (fun _ h => by rw [hC] at h; exact h) hfin hd hn hfit hlen hdg (fun H1 locs1 hP hD hS => ?_)
  rw [fr_set hfr (by rw [aw_len]; exact hj), aw_upd G ad he' hf] at hP hD
  exact kk H1 locs1 _ rfl ⟨hP, hD, hS⟩
theorem ald_i {X : va_W} {a j n N : Nat} {f : St} {i : Int32} (fr : va_W → va_W) (hfr : Fr fr) (cx : Cx G p R s m args meth c own cc nL rt nm A) (wo : Wo G A s.heap H locs (fr X)) (he : X[j]? = some (a, .inl (G.2 0, N, .inl f))) (hi : i = nI n) (hn : n < N) (hN : N < 2 ^ 31) (hdg : decode cc pc = .ok (.iaload, 1))
    (kk : W p l e R s m args below meth c H locs cells slots Q (F0 m (pc + 1) ls (.int (f n) :: rest))) : W p l e R s m args below meth c H locs cells slots Q (F0 m pc ls (.int i :: .ref a :: rest)) := by
  obtain ⟨L1, L2, hfr⟩ := hfr
  subst hi
  refine va_iald cx.1 cx.2.1 cx.2.2.2.2.2.2.2.2.1.1 wo.1 _ 0 (fr_get hfr he) rfl (vp_in_nI hn hN) hdg ?_
  rw [nI_clamp (by omega)]
  exact kk
theorem ald_r {X : va_W} {a j n N t0 : Nat} {cA : ClassId} {C : String} {f : Nat → Option Nat} {i : Int32} (fr : va_W → va_W) (hfr : Fr fr) (cx : Cx G p R s m args meth c own cc nL rt nm A) (wo : Wo G A s.heap H locs (fr X)) (he : X[j]? = some (a, .inl (cA, N, .inr (.inr (.inr (.inr f)))))) (ht : (tysG G)[t0]? = some (cA, .object C)) (hi : i = nI n) (hn : n < N) (hN : N < 2 ^ 31) (hdg : decode cc pc = .ok (.aaload, 1))
    (kk : W p l e R s m args below meth c H locs cells slots Q (F0 m (pc + 1) ls (va_rf (f n) :: rest))) : W p l e R s m args below meth c H locs cells slots Q (F0 m pc ls (.int i :: .ref a :: rest)) := by
  obtain ⟨L1, L2, hfr⟩ := hfr
  subst hi
  refine va_aldq cx.1 cx.2.1 cx.2.2.2.2.2.2.2.2.1.1 wo.1 _ t0 (fr_get hfr he) ht (vp_in_nI hn hN) hdg ?_
  rw [nI_clamp (by omega)]
  exact kk
theorem alen {X : va_W} {a j t0 : Nat} {cA : ClassId} {y : vp_A} {ty : FieldType} {v : Int32} (fr : va_W → va_W) (hfr : Fr fr) (cx : Cx G p R s m args meth c own cc nL rt nm A) (wo : Wo G A s.heap H locs (fr X)) (he : X[j]? = some (a, .inl (cA, y))) (ht : (tysG G)[t0]? = some (cA, ty)) (hv : Int32.ofNat y.1 = v) (hdg : decode cc pc = .ok (.arraylength, 1))
    (kk : W p l e R s m args below meth c H locs cells slots Q (F0 m (pc + 1) ls (.int v :: rest))) : W p l e R s m args below meth c H locs cells slots Q (F0 m pc ls (.ref a :: rest)) := by
  obtain ⟨L1, L2, hfr⟩ := hfr
  exact va_alen cx.1 cx.2.1 cx.2.2.2.2.2.2.2.2.1.1 wo.1 _ t0 (fr_get hfr he) ht hv hdg kk

theorem in_stuff : ∀ w ∈ u_ws "HotAisle$Stuff" TX4 4, w ∈ bw := List.forall_mem_cons.mpr ⟨m_79, List.forall_mem_cons.mpr ⟨m_81, List.forall_mem_cons.mpr ⟨m_83, List.forall_mem_cons.mpr ⟨m_85, fun _ h => absurd h List.not_mem_nil⟩⟩⟩⟩
theorem ac_stuff (G : GG) (ad : Nat → Nat) (g : St) {t : Nat} (ht : t < 19) (hn : t ≠ 12) : ac G ad g (t) = .inr (4, [.int (g (4 * t)), .int (g (4 * t + 1)), .int (g (4 * t + 2)), .int (g (4 * t + 3))]) := by unfold ac; rw [if_neg hn, if_pos ht]
theorem at_stuff (G : GG) (ad : Nat → Nat) (g : St) {t : Nat} (ht : t < 19) (hn : t ≠ 12) : (aw G ad g)[t]? = some (ad (t), .inr (4, [.int (g (4 * t)), .int (g (4 * t + 1)), .int (g (4 * t + 2)), .int (g (4 * t + 3))])) := by rw [aw_at G ad g (by omega), ac_stuff G ad g ht hn]
theorem gf_stuff_copper {t : Nat} (fr : va_W → va_W) (hfr : Fr fr) (cx : Cx G p R s m args meth c own cc nL rt nm A) (wo : Wo G A s.heap H locs (fr (aw G ad g))) (ht : t < 19) (hn : t ≠ 12) (hlk : Cond.fieldLink own index "HotAisle$Stuff" "copper" "I" ∈ bw) (hdg : decode cc pc = .ok (.getfield index, 3)) (kk : W p l e R s m args below meth c H locs cells slots Q (F0 m (pc + 3) ls (.int (g (4 * t)) :: rest))) : W p l e R s m args below meth c H locs cells slots Q (F0 m pc ls (.ref (ad (t)) :: rest)) := gf fr hfr cx wo (at_stuff G ad g ht hn) rfl (k := 0) (by decide) in_stuff rfl hlk rfl hdg kk
theorem pf_stuff_copper {t : Nat} (fr : va_W → va_W) (hfr : Fr fr) (cx : Cx G p R s m args meth c own cc nL rt nm A) (wo : Wo G A s.heap H locs (fr (aw G ad g))) (ht : t < 19) (hn : t ≠ 12) (hlk : Cond.fieldLink own index "HotAisle$Stuff" "copper" "I" ∈ bw) (hdg : decode cc pc = .ok (.putfield index, 3)) (kk : ∀ (H1 : Heap) (locs1 : List Loc) (g1 : St), g1 = upd g (4 * t) x → Wo G A s.heap H1 locs1 (fr (aw G ad g1)) → W p l e R s m args below meth c H1 locs1 cells slots Q (F0 m (pc + 3) ls rest)) : W p l e R s m args below meth c H locs cells slots Q (F0 m pc ls (.int x :: .ref (ad (t)) :: rest)) := pf fr hfr cx wo (j := t) (by omega) (ac_stuff G ad g ht hn) rfl (k := 0) (by decide) in_stuff tyX4 tyX4_ok nmX4 rfl hlk rfl (ty := .int) (by decide +kernel) rfl rfl (Nat.le_of_ble_eq_true rfl) (by rw [ac_stuff G ad _ ht hn]; simp only [upd, List.set]; simp) (fun k h1 h2 => by unfold rd; (repeat' split) <;> first | omega | exact fun z => z) hdg kk
theorem gf_stuff_iron {t : Nat} (fr : va_W → va_W) (hfr : Fr fr) (cx : Cx G p R s m args meth c own cc nL rt nm A) (wo : Wo G A s.heap H locs (fr (aw G ad g))) (ht : t < 19) (hn : t ≠ 12) (hlk : Cond.fieldLink own index "HotAisle$Stuff" "iron" "I" ∈ bw) (hdg : decode cc pc = .ok (.getfield index, 3)) (kk : W p l e R s m args below meth c H locs cells slots Q (F0 m (pc + 3) ls (.int (g (4 * t + 1)) :: rest))) : W p l e R s m args below meth c H locs cells slots Q (F0 m pc ls (.ref (ad (t)) :: rest)) := gf fr hfr cx wo (at_stuff G ad g ht hn) rfl (k := 1) (by decide) in_stuff rfl hlk rfl hdg kk
theorem pf_stuff_iron {t : Nat} (fr : va_W → va_W) (hfr : Fr fr) (cx : Cx G p R s m args meth c own cc nL rt nm A) (wo : Wo G A s.heap H locs (fr (aw G ad g))) (ht : t < 19) (hn : t ≠ 12) (hlk : Cond.fieldLink own index "HotAisle$Stuff" "iron" "I" ∈ bw) (hdg : decode cc pc = .ok (.putfield index, 3)) (kk : ∀ (H1 : Heap) (locs1 : List Loc) (g1 : St), g1 = upd g (4 * t + 1) x → Wo G A s.heap H1 locs1 (fr (aw G ad g1)) → W p l e R s m args below meth c H1 locs1 cells slots Q (F0 m (pc + 3) ls rest)) : W p l e R s m args below meth c H locs cells slots Q (F0 m pc ls (.int x :: .ref (ad (t)) :: rest)) := pf fr hfr cx wo (j := t) (by omega) (ac_stuff G ad g ht hn) rfl (k := 1) (by decide) in_stuff tyX4 tyX4_ok nmX4 rfl hlk rfl (ty := .int) (by decide +kernel) rfl rfl (Nat.le_of_ble_eq_true rfl) (by rw [ac_stuff G ad _ ht hn]; simp only [upd, List.set]; simp) (fun k h1 h2 => by unfold rd; (repeat' split) <;> first | omega | exact fun z => z) hdg kk
theorem gf_stuff_sulphur {t : Nat} (fr : va_W → va_W) (hfr : Fr fr) (cx : Cx G p R s m args meth c own cc nL rt nm A) (wo : Wo G A s.heap H locs (fr (aw G ad g))) (ht : t < 19) (hn : t ≠ 12) (hlk : Cond.fieldLink own index "HotAisle$Stuff" "sulphur" "I" ∈ bw) (hdg : decode cc pc = .ok (.getfield index, 3)) (kk : W p l e R s m args below meth c H locs cells slots Q (F0 m (pc + 3) ls (.int (g (4 * t + 2)) :: rest))) : W p l e R s m args below meth c H locs cells slots Q (F0 m pc ls (.ref (ad (t)) :: rest)) := gf fr hfr cx wo (at_stuff G ad g ht hn) rfl (k := 2) (by decide) in_stuff rfl hlk rfl hdg kk
theorem pf_stuff_sulphur {t : Nat} (fr : va_W → va_W) (hfr : Fr fr) (cx : Cx G p R s m args meth c own cc nL rt nm A) (wo : Wo G A s.heap H locs (fr (aw G ad g))) (ht : t < 19) (hn : t ≠ 12) (hlk : Cond.fieldLink own index "HotAisle$Stuff" "sulphur" "I" ∈ bw) (hdg : decode cc pc = .ok (.putfield index, 3)) (kk : ∀ (H1 : Heap) (locs1 : List Loc) (g1 : St), g1 = upd g (4 * t + 2) x → Wo G A s.heap H1 locs1 (fr (aw G ad g1)) → W p l e R s m args below meth c H1 locs1 cells slots Q (F0 m (pc + 3) ls rest)) : W p l e R s m args below meth c H locs cells slots Q (F0 m pc ls (.int x :: .ref (ad (t)) :: rest)) := pf fr hfr cx wo (j := t) (by omega) (ac_stuff G ad g ht hn) rfl (k := 2) (by decide) in_stuff tyX4 tyX4_ok nmX4 rfl hlk rfl (ty := .int) (by decide +kernel) rfl rfl (Nat.le_of_ble_eq_true rfl) (by rw [ac_stuff G ad _ ht hn]; simp only [upd, List.set]; simp) (fun k h1 h2 => by unfold rd; (repeat' split) <;> first | omega | exact fun z => z) hdg kk
theorem gf_stuff_slag {t : Nat} (fr : va_W → va_W) (hfr : Fr fr) (cx : Cx G p R s m args meth c own cc nL rt nm A) (wo : Wo G A s.heap H locs (fr (aw G ad g))) (ht : t < 19) (hn : t ≠ 12) (hlk : Cond.fieldLink own index "HotAisle$Stuff" "slag" "I" ∈ bw) (hdg : decode cc pc = .ok (.getfield index, 3)) (kk : W p l e R s m args below meth c H locs cells slots Q (F0 m (pc + 3) ls (.int (g (4 * t + 3)) :: rest))) : W p l e R s m args below meth c H locs cells slots Q (F0 m pc ls (.ref (ad (t)) :: rest)) := gf fr hfr cx wo (at_stuff G ad g ht hn) rfl (k := 3) (by decide) in_stuff rfl hlk rfl hdg kk
theorem pf_stuff_slag {t : Nat} (fr : va_W → va_W) (hfr : Fr fr) (cx : Cx G p R s m args meth c own cc nL rt nm A) (wo : Wo G A s.heap H locs (fr (aw G ad g))) (ht : t < 19) (hn : t ≠ 12) (hlk : Cond.fieldLink own index "HotAisle$Stuff" "slag" "I" ∈ bw) (hdg : decode cc pc = .ok (.putfield index, 3)) (kk : ∀ (H1 : Heap) (locs1 : List Loc) (g1 : St), g1 = upd g (4 * t + 3) x → Wo G A s.heap H1 locs1 (fr (aw G ad g1)) → W p l e R s m args below meth c H1 locs1 cells slots Q (F0 m (pc + 3) ls rest)) : W p l e R s m args below meth c H locs cells slots Q (F0 m pc ls (.int x :: .ref (ad (t)) :: rest)) := pf fr hfr cx wo (j := t) (by omega) (ac_stuff G ad g ht hn) rfl (k := 3) (by decide) in_stuff tyX4 tyX4_ok nmX4 rfl hlk rfl (ty := .int) (by decide +kernel) rfl rfl (Nat.le_of_ble_eq_true rfl) (by rw [ac_stuff G ad _ ht hn]; simp only [upd, List.set]; simp) (fun k h1 h2 => by unfold rd; (repeat' split) <;> first | omega | exact fun z => z) hdg kk
theorem in_vessel : ∀ w ∈ u_ws "HotAisle$Vessel" TX5 6, w ∈ bw := List.forall_mem_cons.mpr ⟨m_209, List.forall_mem_cons.mpr ⟨m_211, List.forall_mem_cons.mpr ⟨m_213, List.forall_mem_cons.mpr ⟨m_215, List.forall_mem_cons.mpr ⟨m_217, List.forall_mem_cons.mpr ⟨m_219, fun _ h => absurd h List.not_mem_nil⟩⟩⟩⟩⟩⟩
theorem ac_vessel (G : GG) (ad : Nat → Nat) (g : St) {v : Nat} (hv : v < 3) : ac G ad g (19 + v) = .inr (5, [.int (nI (4 * v + 4)), .ref (ad (1 + v)), .int (g (76 + v)), .int (g (82 + v)), .int (g (85 + v)), .int (g (79 + v))]) := by unfold ac; rw [if_neg (by omega), if_neg (by omega), if_pos (by omega), show 19 + v - 19 = v from by omega]
theorem at_vessel (G : GG) (ad : Nat → Nat) (g : St) {v : Nat} (hv : v < 3) : (aw G ad g)[19 + v]? = some (ad (19 + v), .inr (5, [.int (nI (4 * v + 4)), .ref (ad (1 + v)), .int (g (76 + v)), .int (g (82 + v)), .int (g (85 + v)), .int (g (79 + v))])) := by rw [aw_at G ad g (by omega), ac_vessel G ad g hv]
theorem gf_vessel_place {v : Nat} (fr : va_W → va_W) (hfr : Fr fr) (cx : Cx G p R s m args meth c own cc nL rt nm A) (wo : Wo G A s.heap H locs (fr (aw G ad g))) (hv : v < 3) (hlk : Cond.fieldLink own index "HotAisle$Vessel" "place" "I" ∈ bw) (hdg : decode cc pc = .ok (.getfield index, 3)) (kk : W p l e R s m args below meth c H locs cells slots Q (F0 m (pc + 3) ls (.int (nI (4 * v + 4)) :: rest))) : W p l e R s m args below meth c H locs cells slots Q (F0 m pc ls (.ref (ad (19 + v)) :: rest)) := gf fr hfr cx wo (at_vessel G ad g hv) rfl (k := 0) (by decide) in_vessel rfl hlk rfl hdg kk
theorem gf_vessel_stuff {v : Nat} (fr : va_W → va_W) (hfr : Fr fr) (cx : Cx G p R s m args meth c own cc nL rt nm A) (wo : Wo G A s.heap H locs (fr (aw G ad g))) (hv : v < 3) (hlk : Cond.fieldLink own index "HotAisle$Vessel" "stuff" "LHotAisle$Stuff;" ∈ bw) (hdg : decode cc pc = .ok (.getfield index, 3)) (kk : W p l e R s m args below meth c H locs cells slots Q (F0 m (pc + 3) ls (.ref (ad (1 + v)) :: rest))) : W p l e R s m args below meth c H locs cells slots Q (F0 m pc ls (.ref (ad (19 + v)) :: rest)) := gf fr hfr cx wo (at_vessel G ad g hv) rfl (k := 1) (by decide) in_vessel rfl hlk rfl hdg kk
theorem gf_vessel_heat {v : Nat} (fr : va_W → va_W) (hfr : Fr fr) (cx : Cx G p R s m args meth c own cc nL rt nm A) (wo : Wo G A s.heap H locs (fr (aw G ad g))) (hv : v < 3) (hlk : Cond.fieldLink own index "HotAisle$Vessel" "heat" "I" ∈ bw) (hdg : decode cc pc = .ok (.getfield index, 3)) (kk : W p l e R s m args below meth c H locs cells slots Q (F0 m (pc + 3) ls (.int (g (76 + v)) :: rest))) : W p l e R s m args below meth c H locs cells slots Q (F0 m pc ls (.ref (ad (19 + v)) :: rest)) := gf fr hfr cx wo (at_vessel G ad g hv) rfl (k := 2) (by decide) in_vessel rfl hlk rfl hdg kk
theorem pf_vessel_heat {v : Nat} (fr : va_W → va_W) (hfr : Fr fr) (cx : Cx G p R s m args meth c own cc nL rt nm A) (wo : Wo G A s.heap H locs (fr (aw G ad g))) (hv : v < 3) (hlk : Cond.fieldLink own index "HotAisle$Vessel" "heat" "I" ∈ bw) (hdg : decode cc pc = .ok (.putfield index, 3)) (kk : ∀ (H1 : Heap) (locs1 : List Loc) (g1 : St), g1 = upd g (76 + v) x → Wo G A s.heap H1 locs1 (fr (aw G ad g1)) → W p l e R s m args below meth c H1 locs1 cells slots Q (F0 m (pc + 3) ls rest)) : W p l e R s m args below meth c H locs cells slots Q (F0 m pc ls (.int x :: .ref (ad (19 + v)) :: rest)) := pf fr hfr cx wo (j := 19 + v) (by omega) (ac_vessel G ad g hv) rfl (k := 2) (by decide) in_vessel tyX5 tyX5_ok nmX5 rfl hlk rfl (ty := .int) (by decide +kernel) rfl rfl (Nat.le_of_ble_eq_true rfl) (by rw [ac_vessel G ad _ hv]; simp only [upd, List.set]; simp) (fun k h1 h2 => by unfold rd; (repeat' split) <;> first | omega | exact fun z => z) hdg kk
theorem gf_vessel_held {v : Nat} (fr : va_W → va_W) (hfr : Fr fr) (cx : Cx G p R s m args meth c own cc nL rt nm A) (wo : Wo G A s.heap H locs (fr (aw G ad g))) (hv : v < 3) (hlk : Cond.fieldLink own index "HotAisle$Vessel" "held" "I" ∈ bw) (hdg : decode cc pc = .ok (.getfield index, 3)) (kk : W p l e R s m args below meth c H locs cells slots Q (F0 m (pc + 3) ls (.int (g (82 + v)) :: rest))) : W p l e R s m args below meth c H locs cells slots Q (F0 m pc ls (.ref (ad (19 + v)) :: rest)) := gf fr hfr cx wo (at_vessel G ad g hv) rfl (k := 3) (by decide) in_vessel rfl hlk rfl hdg kk
theorem pf_vessel_held {v : Nat} (fr : va_W → va_W) (hfr : Fr fr) (cx : Cx G p R s m args meth c own cc nL rt nm A) (wo : Wo G A s.heap H locs (fr (aw G ad g))) (hv : v < 3) (hlk : Cond.fieldLink own index "HotAisle$Vessel" "held" "I" ∈ bw) (hdg : decode cc pc = .ok (.putfield index, 3)) (kk : ∀ (H1 : Heap) (locs1 : List Loc) (g1 : St), g1 = upd g (82 + v) x → Wo G A s.heap H1 locs1 (fr (aw G ad g1)) → W p l e R s m args below meth c H1 locs1 cells slots Q (F0 m (pc + 3) ls rest)) : W p l e R s m args below meth c H locs cells slots Q (F0 m pc ls (.int x :: .ref (ad (19 + v)) :: rest)) := pf fr hfr cx wo (j := 19 + v) (by omega) (ac_vessel G ad g hv) rfl (k := 3) (by decide) in_vessel tyX5 tyX5_ok nmX5 rfl hlk rfl (ty := .int) (by decide +kernel) rfl rfl (Nat.le_of_ble_eq_true rfl) (by rw [ac_vessel G ad _ hv]; simp only [upd, List.set]; simp) (fun k h1 h2 => by unfold rd; (repeat' split) <;> first | omega | exact fun z => z) hdg kk
theorem gf_vessel_stopped {v : Nat} (fr : va_W → va_W) (hfr : Fr fr) (cx : Cx G p R s m args meth c own cc nL rt nm A) (wo : Wo G A s.heap H locs (fr (aw G ad g))) (hv : v < 3) (hlk : Cond.fieldLink own index "HotAisle$Vessel" "stopped" "I" ∈ bw) (hdg : decode cc pc = .ok (.getfield index, 3)) (kk : W p l e R s m args below meth c H locs cells slots Q (F0 m (pc + 3) ls (.int (g (85 + v)) :: rest))) : W p l e R s m args below meth c H locs cells slots Q (F0 m pc ls (.ref (ad (19 + v)) :: rest)) := gf fr hfr cx wo (at_vessel G ad g hv) rfl (k := 4) (by decide) in_vessel rfl hlk rfl hdg kk
theorem pf_vessel_stopped {v : Nat} (fr : va_W → va_W) (hfr : Fr fr) (cx : Cx G p R s m args meth c own cc nL rt nm A) (wo : Wo G A s.heap H locs (fr (aw G ad g))) (hv : v < 3) (hlk : Cond.fieldLink own index "HotAisle$Vessel" "stopped" "I" ∈ bw) (hdg : decode cc pc = .ok (.putfield index, 3)) (kk : ∀ (H1 : Heap) (locs1 : List Loc) (g1 : St), g1 = upd g (85 + v) x → Wo G A s.heap H1 locs1 (fr (aw G ad g1)) → W p l e R s m args below meth c H1 locs1 cells slots Q (F0 m (pc + 3) ls rest)) : W p l e R s m args below meth c H locs cells slots Q (F0 m pc ls (.int x :: .ref (ad (19 + v)) :: rest)) := pf fr hfr cx wo (j := 19 + v) (by omega) (ac_vessel G ad g hv) rfl (k := 4) (by decide) in_vessel tyX5 tyX5_ok nmX5 rfl hlk rfl (ty := .int) (by decide +kernel) rfl rfl (Nat.le_of_ble_eq_true rfl) (by rw [ac_vessel G ad _ hv]; simp only [upd, List.set]; simp) (fun k h1 h2 => by unfold rd; (repeat' split) <;> first | omega | exact fun z => z) hdg kk
theorem gf_vessel_isBlown {v : Nat} (fr : va_W → va_W) (hfr : Fr fr) (cx : Cx G p R s m args meth c own cc nL rt nm A) (wo : Wo G A s.heap H locs (fr (aw G ad g))) (hv : v < 3) (hlk : Cond.fieldLink own index "HotAisle$Vessel" "isBlown" "Z" ∈ bw) (hdg : decode cc pc = .ok (.getfield index, 3)) (kk : W p l e R s m args below meth c H locs cells slots Q (F0 m (pc + 3) ls (.int (g (79 + v)) :: rest))) : W p l e R s m args below meth c H locs cells slots Q (F0 m pc ls (.ref (ad (19 + v)) :: rest)) := gf fr hfr cx wo (at_vessel G ad g hv) rfl (k := 5) (by decide) in_vessel rfl hlk rfl hdg kk
theorem pf_vessel_isBlown {v : Nat} (fr : va_W → va_W) (hfr : Fr fr) (cx : Cx G p R s m args meth c own cc nL rt nm A) (wo : Wo G A s.heap H locs (fr (aw G ad g))) (hv : v < 3) (hlk : Cond.fieldLink own index "HotAisle$Vessel" "isBlown" "Z" ∈ bw) (hnr : narrow .boolean (.int x) = .int x) (hft : fits .boolean (.int x) = true) (hdg : decode cc pc = .ok (.putfield index, 3)) (kk : ∀ (H1 : Heap) (locs1 : List Loc) (g1 : St), g1 = upd g (79 + v) x → Wo G A s.heap H1 locs1 (fr (aw G ad g1)) → W p l e R s m args below meth c H1 locs1 cells slots Q (F0 m (pc + 3) ls rest)) : W p l e R s m args below meth c H locs cells slots Q (F0 m pc ls (.int x :: .ref (ad (19 + v)) :: rest)) := pf fr hfr cx wo (j := 19 + v) (by omega) (ac_vessel G ad g hv) rfl (k := 5) (by decide) in_vessel tyX5 tyX5_ok nmX5 rfl hlk rfl (ty := .boolean) (by decide +kernel) hnr hft (Nat.le_of_ble_eq_true rfl) (by rw [ac_vessel G ad _ hv]; simp only [upd, List.set]; simp) (fun k h1 h2 => by unfold rd; (repeat' split) <;> first | omega | exact fun z => z) hdg kk
theorem in_ladle : ∀ w ∈ u_ws "HotAisle$Ladle" TX3 5, w ∈ bw := List.forall_mem_cons.mpr ⟨m_239, List.forall_mem_cons.mpr ⟨m_241, List.forall_mem_cons.mpr ⟨m_243, List.forall_mem_cons.mpr ⟨m_245, List.forall_mem_cons.mpr ⟨m_247, fun _ h => absurd h List.not_mem_nil⟩⟩⟩⟩⟩
theorem ac_ladle (G : GG) (ad : Nat → Nat) (g : St) {d : Nat} (hl : d < 4) : ac G ad g (22 + d) = .inr (3, [.ref (ad (4 + d)), .ref (ad (8 + d)), .int (g (88 + d)), .int (g (92 + d)), .int (g (96 + d))]) := by unfold ac; rw [if_neg (by omega), if_neg (by omega), if_neg (by omega), if_pos (by omega), show 22 + d - 22 = d from by omega]
theorem at_ladle (G : GG) (ad : Nat → Nat) (g : St) {d : Nat} (hl : d < 4) : (aw G ad g)[22 + d]? = some (ad (22 + d), .inr (3, [.ref (ad (4 + d)), .ref (ad (8 + d)), .int (g (88 + d)), .int (g (92 + d)), .int (g (96 + d))])) := by rw [aw_at G ad g (by omega), ac_ladle G ad g hl]
theorem gf_ladle_stuff {d : Nat} (fr : va_W → va_W) (hfr : Fr fr) (cx : Cx G p R s m args meth c own cc nL rt nm A) (wo : Wo G A s.heap H locs (fr (aw G ad g))) (hl : d < 4) (hlk : Cond.fieldLink own index "HotAisle$Ladle" "stuff" "LHotAisle$Stuff;" ∈ bw) (hdg : decode cc pc = .ok (.getfield index, 3)) (kk : W p l e R s m args below meth c H locs cells slots Q (F0 m (pc + 3) ls (.ref (ad (4 + d)) :: rest))) : W p l e R s m args below meth c H locs cells slots Q (F0 m pc ls (.ref (ad (22 + d)) :: rest)) := gf fr hfr cx wo (at_ladle G ad g hl) rfl (k := 0) (by decide) in_ladle rfl hlk rfl hdg kk
theorem gf_ladle_skull {d : Nat} (fr : va_W → va_W) (hfr : Fr fr) (cx : Cx G p R s m args meth c own cc nL rt nm A) (wo : Wo G A s.heap H locs (fr (aw G ad g))) (hl : d < 4) (hlk : Cond.fieldLink own index "HotAisle$Ladle" "skull" "LHotAisle$Stuff;" ∈ bw) (hdg : decode cc pc = .ok (.getfield index, 3)) (kk : W p l e R s m args below meth c H locs cells slots Q (F0 m (pc + 3) ls (.ref (ad (8 + d)) :: rest))) : W p l e R s m args below meth c H locs cells slots Q (F0 m pc ls (.ref (ad (22 + d)) :: rest)) := gf fr hfr cx wo (at_ladle G ad g hl) rfl (k := 1) (by decide) in_ladle rfl hlk rfl hdg kk
theorem gf_ladle_place {d : Nat} (fr : va_W → va_W) (hfr : Fr fr) (cx : Cx G p R s m args meth c own cc nL rt nm A) (wo : Wo G A s.heap H locs (fr (aw G ad g))) (hl : d < 4) (hlk : Cond.fieldLink own index "HotAisle$Ladle" "place" "I" ∈ bw) (hdg : decode cc pc = .ok (.getfield index, 3)) (kk : W p l e R s m args below meth c H locs cells slots Q (F0 m (pc + 3) ls (.int (g (88 + d)) :: rest))) : W p l e R s m args below meth c H locs cells slots Q (F0 m pc ls (.ref (ad (22 + d)) :: rest)) := gf fr hfr cx wo (at_ladle G ad g hl) rfl (k := 2) (by decide) in_ladle rfl hlk rfl hdg kk
theorem pf_ladle_place {d : Nat} (fr : va_W → va_W) (hfr : Fr fr) (cx : Cx G p R s m args meth c own cc nL rt nm A) (wo : Wo G A s.heap H locs (fr (aw G ad g))) (hl : d < 4) (hlk : Cond.fieldLink own index "HotAisle$Ladle" "place" "I" ∈ bw) (hdg : decode cc pc = .ok (.putfield index, 3)) (kk : ∀ (H1 : Heap) (locs1 : List Loc) (g1 : St), g1 = upd g (88 + d) x → Wo G A s.heap H1 locs1 (fr (aw G ad g1)) → W p l e R s m args below meth c H1 locs1 cells slots Q (F0 m (pc + 3) ls rest)) : W p l e R s m args below meth c H locs cells slots Q (F0 m pc ls (.int x :: .ref (ad (22 + d)) :: rest)) := pf fr hfr cx wo (j := 22 + d) (by omega) (ac_ladle G ad g hl) rfl (k := 2) (by decide) in_ladle tyX3 tyX3_ok nmX3 rfl hlk rfl (ty := .int) (by decide +kernel) rfl rfl (Nat.le_of_ble_eq_true rfl) (by rw [ac_ladle G ad _ hl]; simp only [upd, List.set]; simp) (fun k h1 h2 => by unfold rd; (repeat' split) <;> first | omega | exact fun z => z) hdg kk
theorem gf_ladle_carrier {d : Nat} (fr : va_W → va_W) (hfr : Fr fr) (cx : Cx G p R s m args meth c own cc nL rt nm A) (wo : Wo G A s.heap H locs (fr (aw G ad g))) (hl : d < 4) (hlk : Cond.fieldLink own index "HotAisle$Ladle" "carrier" "I" ∈ bw) (hdg : decode cc pc = .ok (.getfield index, 3)) (kk : W p l e R s m args below meth c H locs cells slots Q (F0 m (pc + 3) ls (.int (g (92 + d)) :: rest))) : W p l e R s m args below meth c H locs cells slots Q (F0 m pc ls (.ref (ad (22 + d)) :: rest)) := gf fr hfr cx wo (at_ladle G ad g hl) rfl (k := 3) (by decide) in_ladle rfl hlk rfl hdg kk
theorem pf_ladle_carrier {d : Nat} (fr : va_W → va_W) (hfr : Fr fr) (cx : Cx G p R s m args meth c own cc nL rt nm A) (wo : Wo G A s.heap H locs (fr (aw G ad g))) (hl : d < 4) (hlk : Cond.fieldLink own index "HotAisle$Ladle" "carrier" "I" ∈ bw) (hdg : decode cc pc = .ok (.putfield index, 3)) (kk : ∀ (H1 : Heap) (locs1 : List Loc) (g1 : St), g1 = upd g (92 + d) x → Wo G A s.heap H1 locs1 (fr (aw G ad g1)) → W p l e R s m args below meth c H1 locs1 cells slots Q (F0 m (pc + 3) ls rest)) : W p l e R s m args below meth c H locs cells slots Q (F0 m pc ls (.int x :: .ref (ad (22 + d)) :: rest)) := pf fr hfr cx wo (j := 22 + d) (by omega) (ac_ladle G ad g hl) rfl (k := 3) (by decide) in_ladle tyX3 tyX3_ok nmX3 rfl hlk rfl (ty := .int) (by decide +kernel) rfl rfl (Nat.le_of_ble_eq_true rfl) (by rw [ac_ladle G ad _ hl]; simp only [upd, List.set]; simp) (fun k h1 h2 => by unfold rd; (repeat' split) <;> first | omega | exact fun z => z) hdg kk
theorem gf_ladle_sort {d : Nat} (fr : va_W → va_W) (hfr : Fr fr) (cx : Cx G p R s m args meth c own cc nL rt nm A) (wo : Wo G A s.heap H locs (fr (aw G ad g))) (hl : d < 4) (hlk : Cond.fieldLink own index "HotAisle$Ladle" "sort" "I" ∈ bw) (hdg : decode cc pc = .ok (.getfield index, 3)) (kk : W p l e R s m args below meth c H locs cells slots Q (F0 m (pc + 3) ls (.int (g (96 + d)) :: rest))) : W p l e R s m args below meth c H locs cells slots Q (F0 m pc ls (.ref (ad (22 + d)) :: rest)) := gf fr hfr cx wo (at_ladle G ad g hl) rfl (k := 4) (by decide) in_ladle rfl hlk rfl hdg kk
theorem pf_ladle_sort {d : Nat} (fr : va_W → va_W) (hfr : Fr fr) (cx : Cx G p R s m args meth c own cc nL rt nm A) (wo : Wo G A s.heap H locs (fr (aw G ad g))) (hl : d < 4) (hlk : Cond.fieldLink own index "HotAisle$Ladle" "sort" "I" ∈ bw) (hdg : decode cc pc = .ok (.putfield index, 3)) (kk : ∀ (H1 : Heap) (locs1 : List Loc) (g1 : St), g1 = upd g (96 + d) x → Wo G A s.heap H1 locs1 (fr (aw G ad g1)) → W p l e R s m args below meth c H1 locs1 cells slots Q (F0 m (pc + 3) ls rest)) : W p l e R s m args below meth c H locs cells slots Q (F0 m pc ls (.int x :: .ref (ad (22 + d)) :: rest)) := pf fr hfr cx wo (j := 22 + d) (by omega) (ac_ladle G ad g hl) rfl (k := 4) (by decide) in_ladle tyX3 tyX3_ok nmX3 rfl hlk rfl (ty := .int) (by decide +kernel) rfl rfl (Nat.le_of_ble_eq_true rfl) (by rw [ac_ladle G ad _ hl]; simp only [upd, List.set]; simp) (fun k h1 h2 => by unfold rd; (repeat' split) <;> first | omega | exact fun z => z) hdg kk
theorem in_crane : ∀ w ∈ u_ws "HotAisle$Crane" TX2 6, w ∈ bw := List.forall_mem_cons.mpr ⟨m_113, List.forall_mem_cons.mpr ⟨m_115, List.forall_mem_cons.mpr ⟨m_117, List.forall_mem_cons.mpr ⟨m_119, List.forall_mem_cons.mpr ⟨m_121, List.forall_mem_cons.mpr ⟨m_123, fun _ h => absurd h List.not_mem_nil⟩⟩⟩⟩⟩⟩
theorem ac_crane (G : GG) (ad : Nat → Nat) (g : St) {r : Nat} (hc : r < 2) : ac G ad g (26 + r) = .inr (2, [.int (nI r), .ref (ad (31 + r)), .ref (ad (33 + r)), .int (g (100 + r)), .int (g (104 + r)), .int (g (106 + r))]) := by unfold ac; rw [if_neg (by omega), if_neg (by omega), if_neg (by omega), if_neg (by omega), if_pos (by omega), show 26 + r - 26 = r from by omega]
theorem at_crane (G : GG) (ad : Nat → Nat) (g : St) {r : Nat} (hc : r < 2) : (aw G ad g)[26 + r]? = some (ad (26 + r), .inr (2, [.int (nI r), .ref (ad (31 + r)), .ref (ad (33 + r)), .int (g (100 + r)), .int (g (104 + r)), .int (g (106 + r))])) := by rw [aw_at G ad g (by omega), ac_crane G ad g hc]
theorem gf_crane_number {r : Nat} (fr : va_W → va_W) (hfr : Fr fr) (cx : Cx G p R s m args meth c own cc nL rt nm A) (wo : Wo G A s.heap H locs (fr (aw G ad g))) (hc : r < 2) (hlk : Cond.fieldLink own index "HotAisle$Crane" "number" "I" ∈ bw) (hdg : decode cc pc = .ok (.getfield index, 3)) (kk : W p l e R s m args below meth c H locs cells slots Q (F0 m (pc + 3) ls (.int (nI r) :: rest))) : W p l e R s m args below meth c H locs cells slots Q (F0 m pc ls (.ref (ad (26 + r)) :: rest)) := gf fr hfr cx wo (at_crane G ad g hc) rfl (k := 0) (by decide) in_crane rfl hlk rfl hdg kk
theorem gf_crane_whats {r : Nat} (fr : va_W → va_W) (hfr : Fr fr) (cx : Cx G p R s m args meth c own cc nL rt nm A) (wo : Wo G A s.heap H locs (fr (aw G ad g))) (hc : r < 2) (hlk : Cond.fieldLink own index "HotAisle$Crane" "whats" "[I" ∈ bw) (hdg : decode cc pc = .ok (.getfield index, 3)) (kk : W p l e R s m args below meth c H locs cells slots Q (F0 m (pc + 3) ls (.ref (ad (31 + r)) :: rest))) : W p l e R s m args below meth c H locs cells slots Q (F0 m pc ls (.ref (ad (26 + r)) :: rest)) := gf fr hfr cx wo (at_crane G ad g hc) rfl (k := 1) (by decide) in_crane rfl hlk rfl hdg kk
theorem gf_crane_targets {r : Nat} (fr : va_W → va_W) (hfr : Fr fr) (cx : Cx G p R s m args meth c own cc nL rt nm A) (wo : Wo G A s.heap H locs (fr (aw G ad g))) (hc : r < 2) (hlk : Cond.fieldLink own index "HotAisle$Crane" "targets" "[I" ∈ bw) (hdg : decode cc pc = .ok (.getfield index, 3)) (kk : W p l e R s m args below meth c H locs cells slots Q (F0 m (pc + 3) ls (.ref (ad (33 + r)) :: rest))) : W p l e R s m args below meth c H locs cells slots Q (F0 m pc ls (.ref (ad (26 + r)) :: rest)) := gf fr hfr cx wo (at_crane G ad g hc) rfl (k := 2) (by decide) in_crane rfl hlk rfl hdg kk
theorem gf_crane_place {r : Nat} (fr : va_W → va_W) (hfr : Fr fr) (cx : Cx G p R s m args meth c own cc nL rt nm A) (wo : Wo G A s.heap H locs (fr (aw G ad g))) (hc : r < 2) (hlk : Cond.fieldLink own index "HotAisle$Crane" "place" "I" ∈ bw) (hdg : decode cc pc = .ok (.getfield index, 3)) (kk : W p l e R s m args below meth c H locs cells slots Q (F0 m (pc + 3) ls (.int (g (100 + r)) :: rest))) : W p l e R s m args below meth c H locs cells slots Q (F0 m pc ls (.ref (ad (26 + r)) :: rest)) := gf fr hfr cx wo (at_crane G ad g hc) rfl (k := 3) (by decide) in_crane rfl hlk rfl hdg kk
theorem pf_crane_place {r : Nat} (fr : va_W → va_W) (hfr : Fr fr) (cx : Cx G p R s m args meth c own cc nL rt nm A) (wo : Wo G A s.heap H locs (fr (aw G ad g))) (hc : r < 2) (hlk : Cond.fieldLink own index "HotAisle$Crane" "place" "I" ∈ bw) (hdg : decode cc pc = .ok (.putfield index, 3)) (kk : ∀ (H1 : Heap) (locs1 : List Loc) (g1 : St), g1 = upd g (100 + r) x → Wo G A s.heap H1 locs1 (fr (aw G ad g1)) → W p l e R s m args below meth c H1 locs1 cells slots Q (F0 m (pc + 3) ls rest)) : W p l e R s m args below meth c H locs cells slots Q (F0 m pc ls (.int x :: .ref (ad (26 + r)) :: rest)) := pf fr hfr cx wo (j := 26 + r) (by omega) (ac_crane G ad g hc) rfl (k := 3) (by decide) in_crane tyX2 tyX2_ok nmX2 rfl hlk rfl (ty := .int) (by decide +kernel) rfl rfl (Nat.le_of_ble_eq_true rfl) (by rw [ac_crane G ad _ hc]; simp only [upd, List.set]; simp) (fun k h1 h2 => by unfold rd; (repeat' split) <;> first | omega | exact fun z => z) hdg kk
theorem gf_crane_orders {r : Nat} (fr : va_W → va_W) (hfr : Fr fr) (cx : Cx G p R s m args meth c own cc nL rt nm A) (wo : Wo G A s.heap H locs (fr (aw G ad g))) (hc : r < 2) (hlk : Cond.fieldLink own index "HotAisle$Crane" "orders" "I" ∈ bw) (hdg : decode cc pc = .ok (.getfield index, 3)) (kk : W p l e R s m args below meth c H locs cells slots Q (F0 m (pc + 3) ls (.int (g (104 + r)) :: rest))) : W p l e R s m args below meth c H locs cells slots Q (F0 m pc ls (.ref (ad (26 + r)) :: rest)) := gf fr hfr cx wo (at_crane G ad g hc) rfl (k := 4) (by decide) in_crane rfl hlk rfl hdg kk
theorem pf_crane_orders {r : Nat} (fr : va_W → va_W) (hfr : Fr fr) (cx : Cx G p R s m args meth c own cc nL rt nm A) (wo : Wo G A s.heap H locs (fr (aw G ad g))) (hc : r < 2) (hlk : Cond.fieldLink own index "HotAisle$Crane" "orders" "I" ∈ bw) (hdg : decode cc pc = .ok (.putfield index, 3)) (kk : ∀ (H1 : Heap) (locs1 : List Loc) (g1 : St), g1 = upd g (104 + r) x → Wo G A s.heap H1 locs1 (fr (aw G ad g1)) → W p l e R s m args below meth c H1 locs1 cells slots Q (F0 m (pc + 3) ls rest)) : W p l e R s m args below meth c H locs cells slots Q (F0 m pc ls (.int x :: .ref (ad (26 + r)) :: rest)) := pf fr hfr cx wo (j := 26 + r) (by omega) (ac_crane G ad g hc) rfl (k := 4) (by decide) in_crane tyX2 tyX2_ok nmX2 rfl hlk rfl (ty := .int) (by decide +kernel) rfl rfl (Nat.le_of_ble_eq_true rfl) (by rw [ac_crane G ad _ hc]; simp only [upd, List.set]; simp) (fun k h1 h2 => by unfold rd; (repeat' split) <;> first | omega | exact fun z => z) hdg kk
theorem gf_crane_waits {r : Nat} (fr : va_W → va_W) (hfr : Fr fr) (cx : Cx G p R s m args meth c own cc nL rt nm A) (wo : Wo G A s.heap H locs (fr (aw G ad g))) (hc : r < 2) (hlk : Cond.fieldLink own index "HotAisle$Crane" "waits" "I" ∈ bw) (hdg : decode cc pc = .ok (.getfield index, 3)) (kk : W p l e R s m args below meth c H locs cells slots Q (F0 m (pc + 3) ls (.int (g (106 + r)) :: rest))) : W p l e R s m args below meth c H locs cells slots Q (F0 m pc ls (.ref (ad (26 + r)) :: rest)) := gf fr hfr cx wo (at_crane G ad g hc) rfl (k := 5) (by decide) in_crane rfl hlk rfl hdg kk
theorem pf_crane_waits {r : Nat} (fr : va_W → va_W) (hfr : Fr fr) (cx : Cx G p R s m args meth c own cc nL rt nm A) (wo : Wo G A s.heap H locs (fr (aw G ad g))) (hc : r < 2) (hlk : Cond.fieldLink own index "HotAisle$Crane" "waits" "I" ∈ bw) (hdg : decode cc pc = .ok (.putfield index, 3)) (kk : ∀ (H1 : Heap) (locs1 : List Loc) (g1 : St), g1 = upd g (106 + r) x → Wo G A s.heap H1 locs1 (fr (aw G ad g1)) → W p l e R s m args below meth c H1 locs1 cells slots Q (F0 m (pc + 3) ls rest)) : W p l e R s m args below meth c H locs cells slots Q (F0 m pc ls (.int x :: .ref (ad (26 + r)) :: rest)) := pf fr hfr cx wo (j := 26 + r) (by omega) (ac_crane G ad g hc) rfl (k := 5) (by decide) in_crane tyX2 tyX2_ok nmX2 rfl hlk rfl (ty := .int) (by decide +kernel) rfl rfl (Nat.le_of_ble_eq_true rfl) (by rw [ac_crane G ad _ hc]; simp only [upd, List.set]; simp) (fun k h1 h2 => by unfold rd; (repeat' split) <;> first | omega | exact fun z => z) hdg kk
theorem in_books : ∀ w ∈ u_ws "HotAisle$Books" TX1 12, w ∈ bw := List.forall_mem_cons.mpr ⟨m_162, List.forall_mem_cons.mpr ⟨m_164, List.forall_mem_cons.mpr ⟨m_166, List.forall_mem_cons.mpr ⟨m_168, List.forall_mem_cons.mpr ⟨m_170, List.forall_mem_cons.mpr ⟨m_172, List.forall_mem_cons.mpr ⟨m_174, List.forall_mem_cons.mpr ⟨m_176, List.forall_mem_cons.mpr ⟨m_178, List.forall_mem_cons.mpr ⟨m_180, List.forall_mem_cons.mpr ⟨m_182, List.forall_mem_cons.mpr ⟨m_184, fun _ h => absurd h List.not_mem_nil⟩⟩⟩⟩⟩⟩⟩⟩⟩⟩⟩⟩
theorem ac_books (G : GG) (ad : Nat → Nat) (g : St)  : ac G ad g (28) = .inr (1, [.ref (ad 13), .ref (ad 14), .ref (ad 15), .ref (ad 16), .ref (ad 17), .ref (ad 18), .int (g (140)), .int (g (142)), .int (g (143)), .int (g (144)), .int (g (145)), .int (g (146))]) := rfl
theorem at_books (G : GG) (ad : Nat → Nat) (g : St)  : (aw G ad g)[28]? = some (ad (28), .inr (1, [.ref (ad 13), .ref (ad 14), .ref (ad 15), .ref (ad 16), .ref (ad 17), .ref (ad 18), .int (g (140)), .int (g (142)), .int (g (143)), .int (g (144)), .int (g (145)), .int (g (146))])) := by rw [aw_at G ad g (by decide), ac_books G ad g ]
theorem gf_books_pot (fr : va_W → va_W) (hfr : Fr fr) (cx : Cx G p R s m args meth c own cc nL rt nm A) (wo : Wo G A s.heap H locs (fr (aw G ad g)))  (hlk : Cond.fieldLink own index "HotAisle$Books" "pot" "LHotAisle$Stuff;" ∈ bw) (hdg : decode cc pc = .ok (.getfield index, 3)) (kk : W p l e R s m args below meth c H locs cells slots Q (F0 m (pc + 3) ls (.ref (ad 13) :: rest))) : W p l e R s m args below meth c H locs cells slots Q (F0 m pc ls (.ref (ad (28)) :: rest)) := gf fr hfr cx wo (at_books G ad g ) rfl (k := 0) (by decide) in_books rfl hlk rfl hdg kk
theorem gf_books_givenBack (fr : va_W → va_W) (hfr : Fr fr) (cx : Cx G p R s m args meth c own cc nL rt nm A) (wo : Wo G A s.heap H locs (fr (aw G ad g)))  (hlk : Cond.fieldLink own index "HotAisle$Books" "givenBack" "LHotAisle$Stuff;" ∈ bw) (hdg : decode cc pc = .ok (.getfield index, 3)) (kk : W p l e R s m args below meth c H locs cells slots Q (F0 m (pc + 3) ls (.ref (ad 14) :: rest))) : W p l e R s m args below meth c H locs cells slots Q (F0 m pc ls (.ref (ad (28)) :: rest)) := gf fr hfr cx wo (at_books G ad g ) rfl (k := 1) (by decide) in_books rfl hlk rfl hdg kk
theorem gf_books_cleanedOff (fr : va_W → va_W) (hfr : Fr fr) (cx : Cx G p R s m args meth c own cc nL rt nm A) (wo : Wo G A s.heap H locs (fr (aw G ad g)))  (hlk : Cond.fieldLink own index "HotAisle$Books" "cleanedOff" "LHotAisle$Stuff;" ∈ bw) (hdg : decode cc pc = .ok (.getfield index, 3)) (kk : W p l e R s m args below meth c H locs cells slots Q (F0 m (pc + 3) ls (.ref (ad 15) :: rest))) : W p l e R s m args below meth c H locs cells slots Q (F0 m pc ls (.ref (ad (28)) :: rest)) := gf fr hfr cx wo (at_books G ad g ) rfl (k := 2) (by decide) in_books rfl hlk rfl hdg kk
theorem gf_books_cameIn (fr : va_W → va_W) (hfr : Fr fr) (cx : Cx G p R s m args meth c own cc nL rt nm A) (wo : Wo G A s.heap H locs (fr (aw G ad g)))  (hlk : Cond.fieldLink own index "HotAisle$Books" "cameIn" "LHotAisle$Stuff;" ∈ bw) (hdg : decode cc pc = .ok (.getfield index, 3)) (kk : W p l e R s m args below meth c H locs cells slots Q (F0 m (pc + 3) ls (.ref (ad 16) :: rest))) : W p l e R s m args below meth c H locs cells slots Q (F0 m pc ls (.ref (ad (28)) :: rest)) := gf fr hfr cx wo (at_books G ad g ) rfl (k := 3) (by decide) in_books rfl hlk rfl hdg kk
theorem gf_books_becameOther (fr : va_W → va_W) (hfr : Fr fr) (cx : Cx G p R s m args meth c own cc nL rt nm A) (wo : Wo G A s.heap H locs (fr (aw G ad g)))  (hlk : Cond.fieldLink own index "HotAisle$Books" "becameOther" "LHotAisle$Stuff;" ∈ bw) (hdg : decode cc pc = .ok (.getfield index, 3)) (kk : W p l e R s m args below meth c H locs cells slots Q (F0 m (pc + 3) ls (.ref (ad 17) :: rest))) : W p l e R s m args below meth c H locs cells slots Q (F0 m pc ls (.ref (ad (28)) :: rest)) := gf fr hfr cx wo (at_books G ad g ) rfl (k := 4) (by decide) in_books rfl hlk rfl hdg kk
theorem gf_books_cameOfOthers (fr : va_W → va_W) (hfr : Fr fr) (cx : Cx G p R s m args meth c own cc nL rt nm A) (wo : Wo G A s.heap H locs (fr (aw G ad g)))  (hlk : Cond.fieldLink own index "HotAisle$Books" "cameOfOthers" "LHotAisle$Stuff;" ∈ bw) (hdg : decode cc pc = .ok (.getfield index, 3)) (kk : W p l e R s m args below meth c H locs cells slots Q (F0 m (pc + 3) ls (.ref (ad 18) :: rest))) : W p l e R s m args below meth c H locs cells slots Q (F0 m pc ls (.ref (ad (28)) :: rest)) := gf fr hfr cx wo (at_books G ad g ) rfl (k := 5) (by decide) in_books rfl hlk rfl hdg kk
theorem gf_books_minutesPassed (fr : va_W → va_W) (hfr : Fr fr) (cx : Cx G p R s m args meth c own cc nL rt nm A) (wo : Wo G A s.heap H locs (fr (aw G ad g)))  (hlk : Cond.fieldLink own index "HotAisle$Books" "minutesPassed" "I" ∈ bw) (hdg : decode cc pc = .ok (.getfield index, 3)) (kk : W p l e R s m args below meth c H locs cells slots Q (F0 m (pc + 3) ls (.int (g (140)) :: rest))) : W p l e R s m args below meth c H locs cells slots Q (F0 m pc ls (.ref (ad (28)) :: rest)) := gf fr hfr cx wo (at_books G ad g ) rfl (k := 6) (by decide) in_books rfl hlk rfl hdg kk
theorem pf_books_minutesPassed (fr : va_W → va_W) (hfr : Fr fr) (cx : Cx G p R s m args meth c own cc nL rt nm A) (wo : Wo G A s.heap H locs (fr (aw G ad g)))  (hlk : Cond.fieldLink own index "HotAisle$Books" "minutesPassed" "I" ∈ bw) (hdg : decode cc pc = .ok (.putfield index, 3)) (kk : ∀ (H1 : Heap) (locs1 : List Loc) (g1 : St), g1 = upd g (140) x → Wo G A s.heap H1 locs1 (fr (aw G ad g1)) → W p l e R s m args below meth c H1 locs1 cells slots Q (F0 m (pc + 3) ls rest)) : W p l e R s m args below meth c H locs cells slots Q (F0 m pc ls (.int x :: .ref (ad (28)) :: rest)) := pf fr hfr cx wo (j := 28) (by decide) (ac_books G ad g ) rfl (k := 6) (by decide) in_books tyX1 tyX1_ok nmX1 rfl hlk rfl (ty := .int) (by decide +kernel) rfl rfl (Nat.le_of_ble_eq_true rfl) (by rw [ac_books G ad _ ]; simp only [upd, List.set]; simp) (fun k h1 h2 => by unfold rd; (repeat' split) <;> first | omega | exact fun z => z) hdg kk
theorem gf_books_gasOfMinute (fr : va_W → va_W) (hfr : Fr fr) (cx : Cx G p R s m args meth c own cc nL rt nm A) (wo : Wo G A s.heap H locs (fr (aw G ad g)))  (hlk : Cond.fieldLink own index "HotAisle$Books" "gasOfMinute" "I" ∈ bw) (hdg : decode cc pc = .ok (.getfield index, 3)) (kk : W p l e R s m args below meth c H locs cells slots Q (F0 m (pc + 3) ls (.int (g (142)) :: rest))) : W p l e R s m args below meth c H locs cells slots Q (F0 m pc ls (.ref (ad (28)) :: rest)) := gf fr hfr cx wo (at_books G ad g ) rfl (k := 7) (by decide) in_books rfl hlk rfl hdg kk
theorem pf_books_gasOfMinute (fr : va_W → va_W) (hfr : Fr fr) (cx : Cx G p R s m args meth c own cc nL rt nm A) (wo : Wo G A s.heap H locs (fr (aw G ad g)))  (hlk : Cond.fieldLink own index "HotAisle$Books" "gasOfMinute" "I" ∈ bw) (hdg : decode cc pc = .ok (.putfield index, 3)) (kk : ∀ (H1 : Heap) (locs1 : List Loc) (g1 : St), g1 = upd g (142) x → Wo G A s.heap H1 locs1 (fr (aw G ad g1)) → W p l e R s m args below meth c H1 locs1 cells slots Q (F0 m (pc + 3) ls rest)) : W p l e R s m args below meth c H locs cells slots Q (F0 m pc ls (.int x :: .ref (ad (28)) :: rest)) := pf fr hfr cx wo (j := 28) (by decide) (ac_books G ad g ) rfl (k := 7) (by decide) in_books tyX1 tyX1_ok nmX1 rfl hlk rfl (ty := .int) (by decide +kernel) rfl rfl (Nat.le_of_ble_eq_true rfl) (by rw [ac_books G ad _ ]; simp only [upd, List.set]; simp) (fun k h1 h2 => by unfold rd; (repeat' split) <;> first | omega | exact fun z => z) hdg kk
theorem gf_books_anodes (fr : va_W → va_W) (hfr : Fr fr) (cx : Cx G p R s m args meth c own cc nL rt nm A) (wo : Wo G A s.heap H locs (fr (aw G ad g)))  (hlk : Cond.fieldLink own index "HotAisle$Books" "anodes" "I" ∈ bw) (hdg : decode cc pc = .ok (.getfield index, 3)) (kk : W p l e R s m args below meth c H locs cells slots Q (F0 m (pc + 3) ls (.int (g (143)) :: rest))) : W p l e R s m args below meth c H locs cells slots Q (F0 m pc ls (.ref (ad (28)) :: rest)) := gf fr hfr cx wo (at_books G ad g ) rfl (k := 8) (by decide) in_books rfl hlk rfl hdg kk
theorem pf_books_anodes (fr : va_W → va_W) (hfr : Fr fr) (cx : Cx G p R s m args meth c own cc nL rt nm A) (wo : Wo G A s.heap H locs (fr (aw G ad g)))  (hlk : Cond.fieldLink own index "HotAisle$Books" "anodes" "I" ∈ bw) (hdg : decode cc pc = .ok (.putfield index, 3)) (kk : ∀ (H1 : Heap) (locs1 : List Loc) (g1 : St), g1 = upd g (143) x → Wo G A s.heap H1 locs1 (fr (aw G ad g1)) → W p l e R s m args below meth c H1 locs1 cells slots Q (F0 m (pc + 3) ls rest)) : W p l e R s m args below meth c H locs cells slots Q (F0 m pc ls (.int x :: .ref (ad (28)) :: rest)) := pf fr hfr cx wo (j := 28) (by decide) (ac_books G ad g ) rfl (k := 8) (by decide) in_books tyX1 tyX1_ok nmX1 rfl hlk rfl (ty := .int) (by decide +kernel) rfl rfl (Nat.le_of_ble_eq_true rfl) (by rw [ac_books G ad _ ]; simp only [upd, List.set]; simp) (fun k h1 h2 => by unfold rd; (repeat' split) <;> first | omega | exact fun z => z) hdg kk
theorem gf_books_starved (fr : va_W → va_W) (hfr : Fr fr) (cx : Cx G p R s m args meth c own cc nL rt nm A) (wo : Wo G A s.heap H locs (fr (aw G ad g)))  (hlk : Cond.fieldLink own index "HotAisle$Books" "starved" "I" ∈ bw) (hdg : decode cc pc = .ok (.getfield index, 3)) (kk : W p l e R s m args below meth c H locs cells slots Q (F0 m (pc + 3) ls (.int (g (144)) :: rest))) : W p l e R s m args below meth c H locs cells slots Q (F0 m pc ls (.ref (ad (28)) :: rest)) := gf fr hfr cx wo (at_books G ad g ) rfl (k := 9) (by decide) in_books rfl hlk rfl hdg kk
theorem pf_books_starved (fr : va_W → va_W) (hfr : Fr fr) (cx : Cx G p R s m args meth c own cc nL rt nm A) (wo : Wo G A s.heap H locs (fr (aw G ad g)))  (hlk : Cond.fieldLink own index "HotAisle$Books" "starved" "I" ∈ bw) (hdg : decode cc pc = .ok (.putfield index, 3)) (kk : ∀ (H1 : Heap) (locs1 : List Loc) (g1 : St), g1 = upd g (144) x → Wo G A s.heap H1 locs1 (fr (aw G ad g1)) → W p l e R s m args below meth c H1 locs1 cells slots Q (F0 m (pc + 3) ls rest)) : W p l e R s m args below meth c H locs cells slots Q (F0 m pc ls (.int x :: .ref (ad (28)) :: rest)) := pf fr hfr cx wo (j := 28) (by decide) (ac_books G ad g ) rfl (k := 9) (by decide) in_books tyX1 tyX1_ok nmX1 rfl hlk rfl (ty := .int) (by decide +kernel) rfl rfl (Nat.le_of_ble_eq_true rfl) (by rw [ac_books G ad _ ]; simp only [upd, List.set]; simp) (fun k h1 h2 => by unfold rd; (repeat' split) <;> first | omega | exact fun z => z) hdg kk
theorem gf_books_fullMinutes (fr : va_W → va_W) (hfr : Fr fr) (cx : Cx G p R s m args meth c own cc nL rt nm A) (wo : Wo G A s.heap H locs (fr (aw G ad g)))  (hlk : Cond.fieldLink own index "HotAisle$Books" "fullMinutes" "I" ∈ bw) (hdg : decode cc pc = .ok (.getfield index, 3)) (kk : W p l e R s m args below meth c H locs cells slots Q (F0 m (pc + 3) ls (.int (g (145)) :: rest))) : W p l e R s m args below meth c H locs cells slots Q (F0 m pc ls (.ref (ad (28)) :: rest)) := gf fr hfr cx wo (at_books G ad g ) rfl (k := 10) (by decide) in_books rfl hlk rfl hdg kk
theorem pf_books_fullMinutes (fr : va_W → va_W) (hfr : Fr fr) (cx : Cx G p R s m args meth c own cc nL rt nm A) (wo : Wo G A s.heap H locs (fr (aw G ad g)))  (hlk : Cond.fieldLink own index "HotAisle$Books" "fullMinutes" "I" ∈ bw) (hdg : decode cc pc = .ok (.putfield index, 3)) (kk : ∀ (H1 : Heap) (locs1 : List Loc) (g1 : St), g1 = upd g (145) x → Wo G A s.heap H1 locs1 (fr (aw G ad g1)) → W p l e R s m args below meth c H1 locs1 cells slots Q (F0 m (pc + 3) ls rest)) : W p l e R s m args below meth c H locs cells slots Q (F0 m pc ls (.int x :: .ref (ad (28)) :: rest)) := pf fr hfr cx wo (j := 28) (by decide) (ac_books G ad g ) rfl (k := 10) (by decide) in_books tyX1 tyX1_ok nmX1 rfl hlk rfl (ty := .int) (by decide +kernel) rfl rfl (Nat.le_of_ble_eq_true rfl) (by rw [ac_books G ad _ ]; simp only [upd, List.set]; simp) (fun k h1 h2 => by unfold rd; (repeat' split) <;> first | omega | exact fun z => z) hdg kk
theorem gf_books_ordersDone (fr : va_W → va_W) (hfr : Fr fr) (cx : Cx G p R s m args meth c own cc nL rt nm A) (wo : Wo G A s.heap H locs (fr (aw G ad g)))  (hlk : Cond.fieldLink own index "HotAisle$Books" "ordersDone" "I" ∈ bw) (hdg : decode cc pc = .ok (.getfield index, 3)) (kk : W p l e R s m args below meth c H locs cells slots Q (F0 m (pc + 3) ls (.int (g (146)) :: rest))) : W p l e R s m args below meth c H locs cells slots Q (F0 m pc ls (.ref (ad (28)) :: rest)) := gf fr hfr cx wo (at_books G ad g ) rfl (k := 11) (by decide) in_books rfl hlk rfl hdg kk
theorem pf_books_ordersDone (fr : va_W → va_W) (hfr : Fr fr) (cx : Cx G p R s m args meth c own cc nL rt nm A) (wo : Wo G A s.heap H locs (fr (aw G ad g)))  (hlk : Cond.fieldLink own index "HotAisle$Books" "ordersDone" "I" ∈ bw) (hdg : decode cc pc = .ok (.putfield index, 3)) (kk : ∀ (H1 : Heap) (locs1 : List Loc) (g1 : St), g1 = upd g (146) x → Wo G A s.heap H1 locs1 (fr (aw G ad g1)) → W p l e R s m args below meth c H1 locs1 cells slots Q (F0 m (pc + 3) ls rest)) : W p l e R s m args below meth c H locs cells slots Q (F0 m pc ls (.int x :: .ref (ad (28)) :: rest)) := pf fr hfr cx wo (j := 28) (by decide) (ac_books G ad g ) rfl (k := 11) (by decide) in_books tyX1 tyX1_ok nmX1 rfl hlk rfl (ty := .int) (by decide +kernel) rfl rfl (Nat.le_of_ble_eq_true rfl) (by rw [ac_books G ad _ ]; simp only [upd, List.set]; simp) (fun k h1 h2 => by unfold rd; (repeat' split) <;> first | omega | exact fun z => z) hdg kk
theorem in_aisle : ∀ w ∈ u_ws "HotAisle$Aisle" TX0 9, w ∈ bw := List.forall_mem_cons.mpr ⟨m_262, List.forall_mem_cons.mpr ⟨m_264, List.forall_mem_cons.mpr ⟨m_266, List.forall_mem_cons.mpr ⟨m_268, List.forall_mem_cons.mpr ⟨m_270, List.forall_mem_cons.mpr ⟨m_272, List.forall_mem_cons.mpr ⟨m_274, List.forall_mem_cons.mpr ⟨m_276, List.forall_mem_cons.mpr ⟨m_278, fun _ h => absurd h List.not_mem_nil⟩⟩⟩⟩⟩⟩⟩⟩⟩
theorem ac_aisle (G : GG) (ad : Nat → Nat) (g : St)  : ac G ad g (12) = .inr (0, [.ref (ad 0), .ref (ad 29), .ref (ad 30), .ref (ad 26), .ref (ad 27), .ref (ad 28), .int (g (48)), .int (g (148)), .int (g (149))]) := rfl
theorem at_aisle (G : GG) (ad : Nat → Nat) (g : St)  : (aw G ad g)[12]? = some (ad (12), .inr (0, [.ref (ad 0), .ref (ad 29), .ref (ad 30), .ref (ad 26), .ref (ad 27), .ref (ad 28), .int (g (48)), .int (g (148)), .int (g (149))])) := by rw [aw_at G ad g (by decide), ac_aisle G ad g ]
theorem gf_aisle_furnace (fr : va_W → va_W) (hfr : Fr fr) (cx : Cx G p R s m args meth c own cc nL rt nm A) (wo : Wo G A s.heap H locs (fr (aw G ad g)))  (hlk : Cond.fieldLink own index "HotAisle$Aisle" "furnace" "LHotAisle$Stuff;" ∈ bw) (hdg : decode cc pc = .ok (.getfield index, 3)) (kk : W p l e R s m args below meth c H locs cells slots Q (F0 m (pc + 3) ls (.ref (ad 0) :: rest))) : W p l e R s m args below meth c H locs cells slots Q (F0 m pc ls (.ref (ad (12)) :: rest)) := gf fr hfr cx wo (at_aisle G ad g ) rfl (k := 0) (by decide) in_aisle rfl hlk rfl hdg kk
theorem gf_aisle_vessels (fr : va_W → va_W) (hfr : Fr fr) (cx : Cx G p R s m args meth c own cc nL rt nm A) (wo : Wo G A s.heap H locs (fr (aw G ad g)))  (hlk : Cond.fieldLink own index "HotAisle$Aisle" "vessels" "[LHotAisle$Vessel;" ∈ bw) (hdg : decode cc pc = .ok (.getfield index, 3)) (kk : W p l e R s m args below meth c H locs cells slots Q (F0 m (pc + 3) ls (.ref (ad 29) :: rest))) : W p l e R s m args below meth c H locs cells slots Q (F0 m pc ls (.ref (ad (12)) :: rest)) := gf fr hfr cx wo (at_aisle G ad g ) rfl (k := 1) (by decide) in_aisle rfl hlk rfl hdg kk
theorem gf_aisle_ladles (fr : va_W → va_W) (hfr : Fr fr) (cx : Cx G p R s m args meth c own cc nL rt nm A) (wo : Wo G A s.heap H locs (fr (aw G ad g)))  (hlk : Cond.fieldLink own index "HotAisle$Aisle" "ladles" "[LHotAisle$Ladle;" ∈ bw) (hdg : decode cc pc = .ok (.getfield index, 3)) (kk : W p l e R s m args below meth c H locs cells slots Q (F0 m (pc + 3) ls (.ref (ad 30) :: rest))) : W p l e R s m args below meth c H locs cells slots Q (F0 m pc ls (.ref (ad (12)) :: rest)) := gf fr hfr cx wo (at_aisle G ad g ) rfl (k := 2) (by decide) in_aisle rfl hlk rfl hdg kk
theorem gf_aisle_left (fr : va_W → va_W) (hfr : Fr fr) (cx : Cx G p R s m args meth c own cc nL rt nm A) (wo : Wo G A s.heap H locs (fr (aw G ad g)))  (hlk : Cond.fieldLink own index "HotAisle$Aisle" "left" "LHotAisle$Crane;" ∈ bw) (hdg : decode cc pc = .ok (.getfield index, 3)) (kk : W p l e R s m args below meth c H locs cells slots Q (F0 m (pc + 3) ls (.ref (ad 26) :: rest))) : W p l e R s m args below meth c H locs cells slots Q (F0 m pc ls (.ref (ad (12)) :: rest)) := gf fr hfr cx wo (at_aisle G ad g ) rfl (k := 3) (by decide) in_aisle rfl hlk rfl hdg kk
theorem gf_aisle_right (fr : va_W → va_W) (hfr : Fr fr) (cx : Cx G p R s m args meth c own cc nL rt nm A) (wo : Wo G A s.heap H locs (fr (aw G ad g)))  (hlk : Cond.fieldLink own index "HotAisle$Aisle" "right" "LHotAisle$Crane;" ∈ bw) (hdg : decode cc pc = .ok (.getfield index, 3)) (kk : W p l e R s m args below meth c H locs cells slots Q (F0 m (pc + 3) ls (.ref (ad 27) :: rest))) : W p l e R s m args below meth c H locs cells slots Q (F0 m pc ls (.ref (ad (12)) :: rest)) := gf fr hfr cx wo (at_aisle G ad g ) rfl (k := 4) (by decide) in_aisle rfl hlk rfl hdg kk
theorem gf_aisle_books (fr : va_W → va_W) (hfr : Fr fr) (cx : Cx G p R s m args meth c own cc nL rt nm A) (wo : Wo G A s.heap H locs (fr (aw G ad g)))  (hlk : Cond.fieldLink own index "HotAisle$Aisle" "books" "LHotAisle$Books;" ∈ bw) (hdg : decode cc pc = .ok (.getfield index, 3)) (kk : W p l e R s m args below meth c H locs cells slots Q (F0 m (pc + 3) ls (.ref (ad 28) :: rest))) : W p l e R s m args below meth c H locs cells slots Q (F0 m pc ls (.ref (ad (12)) :: rest)) := gf fr hfr cx wo (at_aisle G ad g ) rfl (k := 5) (by decide) in_aisle rfl hlk rfl hdg kk
theorem gf_aisle_wheelCopper (fr : va_W → va_W) (hfr : Fr fr) (cx : Cx G p R s m args meth c own cc nL rt nm A) (wo : Wo G A s.heap H locs (fr (aw G ad g)))  (hlk : Cond.fieldLink own index "HotAisle$Aisle" "wheelCopper" "I" ∈ bw) (hdg : decode cc pc = .ok (.getfield index, 3)) (kk : W p l e R s m args below meth c H locs cells slots Q (F0 m (pc + 3) ls (.int (g (48)) :: rest))) : W p l e R s m args below meth c H locs cells slots Q (F0 m pc ls (.ref (ad (12)) :: rest)) := gf fr hfr cx wo (at_aisle G ad g ) rfl (k := 6) (by decide) in_aisle rfl hlk rfl hdg kk
theorem pf_aisle_wheelCopper (fr : va_W → va_W) (hfr : Fr fr) (cx : Cx G p R s m args meth c own cc nL rt nm A) (wo : Wo G A s.heap H locs (fr (aw G ad g)))  (hlk : Cond.fieldLink own index "HotAisle$Aisle" "wheelCopper" "I" ∈ bw) (hdg : decode cc pc = .ok (.putfield index, 3)) (kk : ∀ (H1 : Heap) (locs1 : List Loc) (g1 : St), g1 = upd g (48) x → Wo G A s.heap H1 locs1 (fr (aw G ad g1)) → W p l e R s m args below meth c H1 locs1 cells slots Q (F0 m (pc + 3) ls rest)) : W p l e R s m args below meth c H locs cells slots Q (F0 m pc ls (.int x :: .ref (ad (12)) :: rest)) := pf fr hfr cx wo (j := 12) (by decide) (ac_aisle G ad g ) rfl (k := 6) (by decide) in_aisle tyX0 tyX0_ok nmX0 rfl hlk rfl (ty := .int) (by decide +kernel) rfl rfl (Nat.le_of_ble_eq_true rfl) (by rw [ac_aisle G ad _ ]; simp only [upd, List.set]; simp) (fun k h1 h2 => by unfold rd; (repeat' split) <;> first | omega | exact fun z => z) hdg kk
theorem gf_aisle_gasLimit (fr : va_W → va_W) (hfr : Fr fr) (cx : Cx G p R s m args meth c own cc nL rt nm A) (wo : Wo G A s.heap H locs (fr (aw G ad g)))  (hlk : Cond.fieldLink own index "HotAisle$Aisle" "gasLimit" "I" ∈ bw) (hdg : decode cc pc = .ok (.getfield index, 3)) (kk : W p l e R s m args below meth c H locs cells slots Q (F0 m (pc + 3) ls (.int (g (148)) :: rest))) : W p l e R s m args below meth c H locs cells slots Q (F0 m pc ls (.ref (ad (12)) :: rest)) := gf fr hfr cx wo (at_aisle G ad g ) rfl (k := 7) (by decide) in_aisle rfl hlk rfl hdg kk
theorem pf_aisle_gasLimit (fr : va_W → va_W) (hfr : Fr fr) (cx : Cx G p R s m args meth c own cc nL rt nm A) (wo : Wo G A s.heap H locs (fr (aw G ad g)))  (hlk : Cond.fieldLink own index "HotAisle$Aisle" "gasLimit" "I" ∈ bw) (hdg : decode cc pc = .ok (.putfield index, 3)) (kk : ∀ (H1 : Heap) (locs1 : List Loc) (g1 : St), g1 = upd g (148) x → Wo G A s.heap H1 locs1 (fr (aw G ad g1)) → W p l e R s m args below meth c H1 locs1 cells slots Q (F0 m (pc + 3) ls rest)) : W p l e R s m args below meth c H locs cells slots Q (F0 m pc ls (.int x :: .ref (ad (12)) :: rest)) := pf fr hfr cx wo (j := 12) (by decide) (ac_aisle G ad g ) rfl (k := 7) (by decide) in_aisle tyX0 tyX0_ok nmX0 rfl hlk rfl (ty := .int) (by decide +kernel) rfl rfl (Nat.le_of_ble_eq_true rfl) (by rw [ac_aisle G ad _ ]; simp only [upd, List.set]; simp) (fun k h1 h2 => by unfold rd; (repeat' split) <;> first | omega | exact fun z => z) hdg kk
theorem gf_aisle_isFed (fr : va_W → va_W) (hfr : Fr fr) (cx : Cx G p R s m args meth c own cc nL rt nm A) (wo : Wo G A s.heap H locs (fr (aw G ad g)))  (hlk : Cond.fieldLink own index "HotAisle$Aisle" "isFed" "Z" ∈ bw) (hdg : decode cc pc = .ok (.getfield index, 3)) (kk : W p l e R s m args below meth c H locs cells slots Q (F0 m (pc + 3) ls (.int (g (149)) :: rest))) : W p l e R s m args below meth c H locs cells slots Q (F0 m pc ls (.ref (ad (12)) :: rest)) := gf fr hfr cx wo (at_aisle G ad g ) rfl (k := 8) (by decide) in_aisle rfl hlk rfl hdg kk
theorem pf_aisle_isFed (fr : va_W → va_W) (hfr : Fr fr) (cx : Cx G p R s m args meth c own cc nL rt nm A) (wo : Wo G A s.heap H locs (fr (aw G ad g)))  (hlk : Cond.fieldLink own index "HotAisle$Aisle" "isFed" "Z" ∈ bw) (hnr : narrow .boolean (.int x) = .int x) (hft : fits .boolean (.int x) = true) (hdg : decode cc pc = .ok (.putfield index, 3)) (kk : ∀ (H1 : Heap) (locs1 : List Loc) (g1 : St), g1 = upd g (149) x → Wo G A s.heap H1 locs1 (fr (aw G ad g1)) → W p l e R s m args below meth c H1 locs1 cells slots Q (F0 m (pc + 3) ls rest)) : W p l e R s m args below meth c H locs cells slots Q (F0 m pc ls (.int x :: .ref (ad (12)) :: rest)) := pf fr hfr cx wo (j := 12) (by decide) (ac_aisle G ad g ) rfl (k := 8) (by decide) in_aisle tyX0 tyX0_ok nmX0 rfl hlk rfl (ty := .boolean) (by decide +kernel) hnr hft (Nat.le_of_ble_eq_true rfl) (by rw [ac_aisle G ad _ ]; simp only [upd, List.set]; simp) (fun k h1 h2 => by unfold rd; (repeat' split) <;> first | omega | exact fun z => z) hdg kk
theorem at_vs (G : GG) (ad : Nat → Nat) (g : St) : (aw G ad g)[29]? = some (ad 29, .inl (G.2 1, 3, .inr (.inr (.inr (.inr (fun i => some (ad (19 + i)))))))) := aw_at G ad g (by decide)
theorem at_ls (G : GG) (ad : Nat → Nat) (g : St) : (aw G ad g)[30]? = some (ad 30, .inl (G.2 2, 4, .inr (.inr (.inr (.inr (fun i => some (ad (22 + i)))))))) := aw_at G ad g (by decide)
theorem ac_wh (G : GG) (ad : Nat → Nat) (g : St) {c : Nat} (hc : c < 2) : ac G ad g (31 + c) = .inl (G.2 0, 8, .inl (fun i => if i < 8 then g (108 + 16 * c + 2 * i) else 0)) := by
  unfold ac; rw [if_neg (by omega), if_neg (by omega), if_neg (by omega), if_neg (by omega), if_neg (by omega), if_neg (by omega), if_neg (by omega), if_neg (by omega), if_pos (by omega), show 31 + c - 31 = c from by omega]
theorem ac_tg (G : GG) (ad : Nat → Nat) (g : St) {c : Nat} (hc : c < 2) : ac G ad g (33 + c) = .inl (G.2 0, 8, .inl (fun i => if i < 8 then g (108 + 16 * c + 2 * i + 1) else 0)) := by
  unfold ac; rw [if_neg (by omega), if_neg (by omega), if_neg (by omega), if_neg (by omega), if_neg (by omega), if_neg (by omega), if_neg (by omega), if_neg (by omega), if_neg (by omega), show 33 + c - 33 = c from by omega]
theorem ald_wh {c n : Nat} {i : Int32} {cd : Code} (fr : va_W → va_W) (hfr : Fr fr) (cx : Cx G p R s m args meth cd own cc nL rt nm A) (wo : Wo G A s.heap H locs (fr (aw G ad g))) (hc : c < 2) (hi : i = nI n) (hn : n < 8) (hdg : decode cc pc = .ok (.iaload, 1))
    (kk : W p l e R s m args below meth cd H locs cells slots Q (F0 m (pc + 1) ls (.int (g (108 + 16 * c + 2 * n)) :: rest))) : W p l e R s m args below meth cd H locs cells slots Q (F0 m pc ls (.int i :: .ref (ad (31 + c)) :: rest)) := by
  refine ald_i (j := 31 + c) fr hfr cx wo (by rw [aw_at G ad g (by omega), ac_wh G ad g hc]) hi hn (by decide) hdg ?_
  simp only [hn, if_true]
  exact kk
theorem ald_tg {c n : Nat} {i : Int32} {cd : Code} (fr : va_W → va_W) (hfr : Fr fr) (cx : Cx G p R s m args meth cd own cc nL rt nm A) (wo : Wo G A s.heap H locs (fr (aw G ad g))) (hc : c < 2) (hi : i = nI n) (hn : n < 8) (hdg : decode cc pc = .ok (.iaload, 1))
    (kk : W p l e R s m args below meth cd H locs cells slots Q (F0 m (pc + 1) ls (.int (g (108 + 16 * c + 2 * n + 1)) :: rest))) : W p l e R s m args below meth cd H locs cells slots Q (F0 m pc ls (.int i :: .ref (ad (33 + c)) :: rest)) := by
  refine ald_i (j := 33 + c) fr hfr cx wo (by rw [aw_at G ad g (by omega), ac_tg G ad g hc]) hi hn (by decide) hdg ?_
  simp only [hn, if_true]
  exact kk
theorem ast_ac {j n i0 : Nat} {f : St} {i : Int32} (fr : va_W → va_W) (hfr : Fr fr) (cx : Cx G p R s m args meth c own cc nL rt nm A) (wo : Wo G A s.heap H locs (fr (aw G ad g))) (hj : j < 35) (he : ac G ad g j = .inl (G.2 0, 8, .inl f)) (hi : i = nI n) (hn : n < 8) (he' : ac G ad (upd g i0 x) j = .inl (G.2 0, 8, .inl (upd f n x))) (hf : ∀ k, k < 35 → k ≠ j → ¬ rd k i0) (hdg : decode cc pc = .ok (.iastore, 1))
    (kk : ∀ (H1 : Heap) (locs1 : List Loc) (g1 : St), g1 = upd g i0 x → Wo G A s.heap H1 locs1 (fr (aw G ad g1)) → W p l e R s m args below meth c H1 locs1 cells slots Q (F0 m (pc + 1) ls rest)) : W p l e R s m args below meth c H locs cells slots Q (F0 m pc ls (.int x :: .int i :: .ref (ad j) :: rest)) := by
  obtain ⟨L1, L2, hfr⟩ := hfr
  subst hi
  have hat : (aw G ad g)[j]? = some (ad j, .inl (G.2 0, 8, .inl f)) := by rw [aw_at G ad g hj, he]
  refine va_iast cx.1 cx.2.1 cx.2.2.2.2.2.2.2.2.1.1 wo.1 wo.2.1 wo.2.2 (L1.length + j) 0 (fr_get hfr hat) rfl (vp_in_nI hn (by decide)) hdg (fun H1 locs1 hP hD hS => ?_)
  rw [nI_clamp (by omega), fr_set hfr (by rw [aw_len]; exact hj), aw_upd G ad he' hf] at hP hD
  exact kk H1 locs1 _ rfl ⟨hP, hD, hS⟩
theorem ast_wh {c n : Nat} {i : Int32} {cd : Code} (fr : va_W → va_W) (hfr : Fr fr) (cx : Cx G p R s m args meth cd own cc nL rt nm A) (wo : Wo G A s.heap H locs (fr (aw G ad g))) (hc : c < 2) (hi : i = nI n) (hn : n < 8) (hdg : decode cc pc = .ok (.iastore, 1))
    (kk : ∀ (H1 : Heap) (locs1 : List Loc) (g1 : St), g1 = upd g (108 + 16 * c + 2 * n) x → Wo G A s.heap H1 locs1 (fr (aw G ad g1)) → W p l e R s m args below meth cd H1 locs1 cells slots Q (F0 m (pc + 1) ls rest)) : W p l e R s m args below meth cd H locs cells slots Q (F0 m pc ls (.int x :: .int i :: .ref (ad (31 + c)) :: rest)) := by
  refine ast_ac fr hfr cx wo (by omega) (ac_wh G ad g hc) hi hn (i0 := 108 + 16 * c + 2 * n) ?_ (fun k h1 h2 => by unfold rd; (repeat' split) <;> first | omega | exact fun z => z) hdg kk
  rw [ac_wh G ad _ hc]
  refine congrArg (fun z => Sum.inl (G.2 0, 8, Sum.inl z)) (funext fun q => ?_)
  simp only [upd]
  by_cases h : q = n
  · subst h; simp [hn]
  · rw [if_neg h]
    by_cases h8 : q < 8
    · rw [if_pos h8, if_pos h8, if_neg (by omega)]
    · rw [if_neg h8, if_neg h8]
theorem ast_tg {c n : Nat} {i : Int32} {cd : Code} (fr : va_W → va_W) (hfr : Fr fr) (cx : Cx G p R s m args meth cd own cc nL rt nm A) (wo : Wo G A s.heap H locs (fr (aw G ad g))) (hc : c < 2) (hi : i = nI n) (hn : n < 8) (hdg : decode cc pc = .ok (.iastore, 1))
    (kk : ∀ (H1 : Heap) (locs1 : List Loc) (g1 : St), g1 = upd g (108 + 16 * c + 2 * n + 1) x → Wo G A s.heap H1 locs1 (fr (aw G ad g1)) → W p l e R s m args below meth cd H1 locs1 cells slots Q (F0 m (pc + 1) ls rest)) : W p l e R s m args below meth cd H locs cells slots Q (F0 m pc ls (.int x :: .int i :: .ref (ad (33 + c)) :: rest)) := by
  refine ast_ac fr hfr cx wo (by omega) (ac_tg G ad g hc) hi hn (i0 := 108 + 16 * c + 2 * n + 1) ?_ (fun k h1 h2 => by unfold rd; (repeat' split) <;> first | omega | exact fun z => z) hdg kk
  rw [ac_tg G ad _ hc]
  refine congrArg (fun z => Sum.inl (G.2 0, 8, Sum.inl z)) (funext fun q => ?_)
  simp only [upd]
  by_cases h : q = n
  · subst h; simp [hn]
  · rw [if_neg h]
    by_cases h8 : q < 8
    · rw [if_pos h8, if_pos h8, if_neg (by omega)]
    · rw [if_neg h8, if_neg h8]
end AW
end
section
/-! the reference's world; small rows of both walks -/
def mw (G : GG) (am : Nat → Nat) (g : St) (kf : St) (n : Int32) : va_W := [(am 0, .inr (7, [.ref (am 1), .ref (am 2), .int n])), (am 1, .inl (G.2 0, 150, .inl g)), (am 2, .inl (G.2 0, 1200, .inl kf))]
theorem in_model : ∀ w ∈ u_ws "HotAisleModel" TX7 3, w ∈ bw := List.forall_mem_cons.mpr ⟨m_634, List.forall_mem_cons.mpr ⟨m_636, List.forall_mem_cons.mpr ⟨m_638, fun _ h => absurd h List.not_mem_nil⟩⟩⟩
def mn (x y : Int32) : Int32 := if y < x then y else x
def mx (x y : Int32) : Int32 := if x < y then y else x
theorem rdn {g1 g : St} {i j : Nat} {x v : Int32} (h : g1 = upd g i x) (hj : j ≠ i) (hv : g j = v) : g1 j = v := by rw [h, pk_un hj, hv]
theorem rds {g1 g : St} {i j : Nat} {x : Int32} (h : g1 = upd g i x) (hj : j = i) : g1 j = x := by rw [h, hj, pk_us]
section MW
variable {G : GG} {p : Program} {l : Launch} {e : Env} {R : Room} {s : State} {m : MethodId} {args : Array Value} {below : List Frame} {meth : Method} {c : Code} {H : Heap} {locs : List Loc} {cells slots : Nat} {own : String} {cc : ByteArray} {nL : Nat} {rt : Option FieldType} {nm : String} {A : Nat → Prop} {pc : Nat} {ls : Array Slot} {rest : List Value} {Q : State → Prop} {am : Nat → Nat} {g kf : St} {nk : Int32} {index : Nat} {x : Int32}
theorem mg_st (cx : Cx G p R s m args meth c own cc nL rt nm A) (wo : Wo G A s.heap H locs (mw G am g kf nk)) (hl : Cond.fieldLink own index "HotAisleModel" "st" "[I" ∈ bw) (hdg : decode cc pc = .ok (.getfield index, 3)) (kk : W p l e R s m args below meth c H locs cells slots Q (F0 m (pc + 3) ls (.ref (am 1) :: rest))) : W p l e R s m args below meth c H locs cells slots Q (F0 m pc ls (.ref (am 0) :: rest)) :=
  gf (fun X => X) Fr_id cx wo (j := 0) rfl rfl (k := 0) (by decide) in_model rfl hl rfl hdg kk
theorem mg_kept (cx : Cx G p R s m args meth c own cc nL rt nm A) (wo : Wo G A s.heap H locs (mw G am g kf nk)) (hl : Cond.fieldLink own index "HotAisleModel" "kept" "[I" ∈ bw) (hdg : decode cc pc = .ok (.getfield index, 3)) (kk : W p l e R s m args below meth c H locs cells slots Q (F0 m (pc + 3) ls (.ref (am 2) :: rest))) : W p l e R s m args below meth c H locs cells slots Q (F0 m pc ls (.ref (am 0) :: rest)) :=
  gf (fun X => X) Fr_id cx wo (j := 0) rfl rfl (k := 1) (by decide) in_model rfl hl rfl hdg kk
theorem mg_many (cx : Cx G p R s m args meth c own cc nL rt nm A) (wo : Wo G A s.heap H locs (mw G am g kf nk)) (hl : Cond.fieldLink own index "HotAisleModel" "keptMany" "I" ∈ bw) (hdg : decode cc pc = .ok (.getfield index, 3)) (kk : W p l e R s m args below meth c H locs cells slots Q (F0 m (pc + 3) ls (.int nk :: rest))) : W p l e R s m args below meth c H locs cells slots Q (F0 m pc ls (.ref (am 0) :: rest)) :=
  gf (fun X => X) Fr_id cx wo (j := 0) rfl rfl (k := 2) (by decide) in_model rfl hl rfl hdg kk
theorem mp_many (cx : Cx G p R s m args meth c own cc nL rt nm A) (wo : Wo G A s.heap H locs (mw G am g kf nk)) (hl : Cond.fieldLink own index "HotAisleModel" "keptMany" "I" ∈ bw) (hdg : decode cc pc = .ok (.putfield index, 3)) (kk : ∀ (H1 : Heap) (locs1 : List Loc), Wo G A s.heap H1 locs1 (mw G am g kf x) → W p l e R s m args below meth c H1 locs1 cells slots Q (F0 m (pc + 3) ls rest)) : W p l e R s m args below meth c H locs cells slots Q (F0 m pc ls (.int x :: .ref (am 0) :: rest)) :=
  va_put cx.1 cx.2.1 cx.2.2.2.2.2.2.1 in_model tyX7 tyX7_ok nmX7 cx.2.2.2.2.2.1 cx.2.2.2.2.2.2.2.2.1.1 wo.1 wo.2.1 wo.2.2 0 rfl rfl 2 (by decide) (cx.2.2.2.2.2.2.1 _ hl) (fun _ h => h) rfl (ty := .int) (by decide +kernel) rfl rfl (Nat.le_of_ble_eq_true rfl) hdg (fun H1 locs1 hP hD hS => kk H1 locs1 ⟨hP, hD, hS⟩)
theorem ml_st {n : Nat} {i : Int32} (cx : Cx G p R s m args meth c own cc nL rt nm A) (wo : Wo G A s.heap H locs (mw G am g kf nk)) (hi : i = nI n) (hn : n < 150) (hdg : decode cc pc = .ok (.iaload, 1)) (kk : W p l e R s m args below meth c H locs cells slots Q (F0 m (pc + 1) ls (.int (g n) :: rest))) : W p l e R s m args below meth c H locs cells slots Q (F0 m pc ls (.int i :: .ref (am 1) :: rest)) :=
  ald_i (fun X => X) Fr_id cx wo (j := 1) rfl hi hn (by decide) hdg kk
theorem ml_kept {n : Nat} {i : Int32} (cx : Cx G p R s m args meth c own cc nL rt nm A) (wo : Wo G A s.heap H locs (mw G am g kf nk)) (hi : i = nI n) (hn : n < 1200) (hdg : decode cc pc = .ok (.iaload, 1)) (kk : W p l e R s m args below meth c H locs cells slots Q (F0 m (pc + 1) ls (.int (kf n) :: rest))) : W p l e R s m args below meth c H locs cells slots Q (F0 m pc ls (.int i :: .ref (am 2) :: rest)) :=
  ald_i (fun X => X) Fr_id cx wo (j := 2) rfl hi hn (by decide) hdg kk
theorem ms_st {n : Nat} {i : Int32} (cx : Cx G p R s m args meth c own cc nL rt nm A) (wo : Wo G A s.heap H locs (mw G am g kf nk)) (hi : i = nI n) (hn : n < 150) (hdg : decode cc pc = .ok (.iastore, 1)) (kk : ∀ (H1 : Heap) (locs1 : List Loc) (g1 : St), g1 = upd g n x → Wo G A s.heap H1 locs1 (mw G am g1 kf nk) → W p l e R s m args below meth c H1 locs1 cells slots Q (F0 m (pc + 1) ls rest)) : W p l e R s m args below meth c H locs cells slots Q (F0 m pc ls (.int x :: .int i :: .ref (am 1) :: rest)) := by
  subst hi
  refine va_iast cx.1 cx.2.1 cx.2.2.2.2.2.2.2.2.1.1 wo.1 wo.2.1 wo.2.2 1 0 rfl rfl (vp_in_nI hn (by decide)) hdg (fun H1 locs1 hP hD hS => ?_)
  rw [nI_clamp (by omega)] at hP hD
  exact kk H1 locs1 _ rfl ⟨hP, hD, hS⟩
theorem ms_kept {n : Nat} {i : Int32} (cx : Cx G p R s m args meth c own cc nL rt nm A) (wo : Wo G A s.heap H locs (mw G am g kf nk)) (hi : i = nI n) (hn : n < 1200) (hdg : decode cc pc = .ok (.iastore, 1)) (kk : ∀ (H1 : Heap) (locs1 : List Loc), Wo G A s.heap H1 locs1 (mw G am g (upd kf n x) nk) → W p l e R s m args below meth c H1 locs1 cells slots Q (F0 m (pc + 1) ls rest)) : W p l e R s m args below meth c H locs cells slots Q (F0 m pc ls (.int x :: .int i :: .ref (am 2) :: rest)) := by
  subst hi
  refine va_iast cx.1 cx.2.1 cx.2.2.2.2.2.2.2.2.1.1 wo.1 wo.2.1 wo.2.2 2 0 rfl rfl (vp_in_nI hn (by decide)) hdg (fun H1 locs1 hP hD hS => ?_)
  rw [nI_clamp (by omega)] at hP hD
  exact kk H1 locs1 ⟨hP, hD, hS⟩
theorem min_r {y : Int32} (cx : Cx G p R s m args meth c own cc nL rt nm A) (hl : Cond.methodLink own index ⟨"java/lang/Math", "min", "(II)I"⟩ ∈ bw) (hdg : decode cc pc = .ok (.invokestatic index, 3)) (hls : ls.size = nL) (hfr : 1 ≤ R.frames) (hlo : (rest.map fun v => v.category).sum + 13 ≤ R.locals) (hc : cells ≤ R.cells) (hs : slots ≤ R.slots)
    (kk : W p l e R s m args below meth c H locs cells slots Q (F0 m (pc + 3) ls (.int (mn x y) :: rest))) : W p l e R s m args below meth c H locs cells slots Q (F0 m pc ls (.int y :: .int x :: rest)) :=
  va_mmin cx.1 cx.2.1 (by rw [cx.2.2.1, hls]) cx.2.2.2.2.2.1 (cx.2.2.2.2.2.2.1 _ hl) (cx.2.2.2.2.2.2.1 _ m_379) (cx.2.2.2.2.2.2.1 _ m_47) (cx.2.2.2.2.2.2.1 _ m_380) hfr hlo hc hs hdg kk
theorem max_r {y : Int32} (cx : Cx G p R s m args meth c own cc nL rt nm A) (hl : Cond.methodLink own index ⟨"java/lang/Math", "max", "(II)I"⟩ ∈ bw) (hdg : decode cc pc = .ok (.invokestatic index, 3)) (hls : ls.size = nL) (hfr : 1 ≤ R.frames) (hlo : (rest.map fun v => v.category).sum + 13 ≤ R.locals) (hc : cells ≤ R.cells) (hs : slots ≤ R.slots)
    (kk : W p l e R s m args below meth c H locs cells slots Q (F0 m (pc + 3) ls (.int (mx x y) :: rest))) : W p l e R s m args below meth c H locs cells slots Q (F0 m pc ls (.int y :: .int x :: rest)) :=
  va_mmax cx.1 cx.2.1 (by rw [cx.2.2.1, hls]) cx.2.2.2.2.2.1 (cx.2.2.2.2.2.2.1 _ hl) (cx.2.2.2.2.2.2.1 _ m_390) (cx.2.2.2.2.2.2.1 _ m_47) (cx.2.2.2.2.2.2.1 _ m_391) hfr hlo hc hs hdg kk
end MW
theorem out_sw {x : Int32} {lo hi : Int} (h : ∀ k : Int, lo ≤ k → k ≤ hi → ¬ x.toInt = k) : x.toInt < lo ∨ hi < x.toInt := by
  by_cases h1 : x.toInt < lo
  · exact Or.inl h1
  · by_cases h2 : hi < x.toInt
    · exact Or.inr h2
    · exact absurd rfl (h x.toInt (by omega) (by omega))
end
