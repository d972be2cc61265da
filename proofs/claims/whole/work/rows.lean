section
-- ===== PART A: goes FIRST, ahead of the names: the tables' words, and 'selects' of the private methods out of them =====
/-- a private method of a class that the tables say can be made, by its rows of tables_1 -/
def lw_okq (q : MethodName × Nat) : Prop := (q.1.cls ≠ "java/lang/invoke/MethodHandle" ∧ q.1.cls ≠ "java/lang/invoke/VarHandle") ∧ Cond.instantiable q.1.cls q.2 ∈ tables_1 ∧ Cond.privateMethod q.1 ∈ tables_1 ∧ Cond.instanceMethod q.1 ∈ tables_1
theorem lw_p0 : lw_okq (⟨"HotAisle$Aisle", "feedFurnace", "()V"⟩, 9) := ⟨⟨by decide +kernel, by decide +kernel⟩, List.mem_of_getElem? (i := 19) (by decide +kernel), List.mem_of_getElem? (i := 315) (by decide +kernel), List.mem_of_getElem? (i := 316) (by decide +kernel)⟩
theorem lw_p1 : lw_okq (⟨"HotAisle$Aisle", "feed", "(II)V"⟩, 9) := ⟨⟨by decide +kernel, by decide +kernel⟩, List.mem_of_getElem? (i := 19) (by decide +kernel), List.mem_of_getElem? (i := 320) (by decide +kernel), List.mem_of_getElem? (i := 321) (by decide +kernel)⟩
theorem lw_p2 : lw_okq (⟨"HotAisle$Aisle", "blowVessels", "()V"⟩, 9) := ⟨⟨by decide +kernel, by decide +kernel⟩, List.mem_of_getElem? (i := 19) (by decide +kernel), List.mem_of_getElem? (i := 328) (by decide +kernel), List.mem_of_getElem? (i := 329) (by decide +kernel)⟩
theorem lw_p3 : lw_okq (⟨"HotAisle$Aisle", "blowParts", "(LHotAisle$Vessel;)V"⟩, 9) := ⟨⟨by decide +kernel, by decide +kernel⟩, List.mem_of_getElem? (i := 19) (by decide +kernel), List.mem_of_getElem? (i := 332) (by decide +kernel), List.mem_of_getElem? (i := 333) (by decide +kernel)⟩
theorem lw_p4 : lw_okq (⟨"HotAisle$Aisle", "burn", "(LHotAisle$Vessel;II)V"⟩, 9) := ⟨⟨by decide +kernel, by decide +kernel⟩, List.mem_of_getElem? (i := 19) (by decide +kernel), List.mem_of_getElem? (i := 344) (by decide +kernel), List.mem_of_getElem? (i := 345) (by decide +kernel)⟩
theorem lw_p5 : lw_okq (⟨"HotAisle$Aisle", "castAnode", "()V"⟩, 9) := ⟨⟨by decide +kernel, by decide +kernel⟩, List.mem_of_getElem? (i := 19) (by decide +kernel), List.mem_of_getElem? (i := 355) (by decide +kernel), List.mem_of_getElem? (i := 356) (by decide +kernel)⟩
theorem lw_p6 : lw_okq (⟨"HotAisle$Aisle", "work", "(LHotAisle$Crane;LHotAisle$Crane;)V"⟩, 9) := ⟨⟨by decide +kernel, by decide +kernel⟩, List.mem_of_getElem? (i := 19) (by decide +kernel), List.mem_of_getElem? (i := 359) (by decide +kernel), List.mem_of_getElem? (i := 360) (by decide +kernel)⟩
theorem lw_p7 : lw_okq (⟨"HotAisle$Aisle", "finishFirst", "(LHotAisle$Crane;)V"⟩, 9) := ⟨⟨by decide +kernel, by decide +kernel⟩, List.mem_of_getElem? (i := 19) (by decide +kernel), List.mem_of_getElem? (i := 371) (by decide +kernel), List.mem_of_getElem? (i := 372) (by decide +kernel)⟩
theorem lw_p8 : lw_okq (⟨"HotAisle$Aisle", "stepOrWait", "(LHotAisle$Crane;LHotAisle$Crane;)V"⟩, 9) := ⟨⟨by decide +kernel, by decide +kernel⟩, List.mem_of_getElem? (i := 19) (by decide +kernel), List.mem_of_getElem? (i := 381) (by decide +kernel), List.mem_of_getElem? (i := 382) (by decide +kernel)⟩
theorem lw_p9 : lw_okq (⟨"HotAisle$Aisle", "isCarriedOut", "(LHotAisle$Crane;)Z"⟩, 9) := ⟨⟨by decide +kernel, by decide +kernel⟩, List.mem_of_getElem? (i := 19) (by decide +kernel), List.mem_of_getElem? (i := 397) (by decide +kernel), List.mem_of_getElem? (i := 398) (by decide +kernel)⟩
theorem lw_p10 : lw_okq (⟨"HotAisle$Aisle", "take", "(LHotAisle$Crane;)Z"⟩, 9) := ⟨⟨by decide +kernel, by decide +kernel⟩, List.mem_of_getElem? (i := 19) (by decide +kernel), List.mem_of_getElem? (i := 401) (by decide +kernel), List.mem_of_getElem? (i := 402) (by decide +kernel)⟩
theorem lw_p11 : lw_okq (⟨"HotAisle$Aisle", "set", "(LHotAisle$Ladle;)Z"⟩, 9) := ⟨⟨by decide +kernel, by decide +kernel⟩, List.mem_of_getElem? (i := 19) (by decide +kernel), List.mem_of_getElem? (i := 413) (by decide +kernel), List.mem_of_getElem? (i := 414) (by decide +kernel)⟩
theorem lw_p12 : lw_okq (⟨"HotAisle$Aisle", "tap", "(LHotAisle$Ladle;)Z"⟩, 9) := ⟨⟨by decide +kernel, by decide +kernel⟩, List.mem_of_getElem? (i := 19) (by decide +kernel), List.mem_of_getElem? (i := 421) (by decide +kernel), List.mem_of_getElem? (i := 422) (by decide +kernel)⟩
theorem lw_p13 : lw_okq (⟨"HotAisle$Aisle", "tapStuff", "(LHotAisle$Ladle;II)V"⟩, 9) := ⟨⟨by decide +kernel, by decide +kernel⟩, List.mem_of_getElem? (i := 19) (by decide +kernel), List.mem_of_getElem? (i := 430) (by decide +kernel), List.mem_of_getElem? (i := 431) (by decide +kernel)⟩
theorem lw_p14 : lw_okq (⟨"HotAisle$Aisle", "pour", "(LHotAisle$Ladle;LHotAisle$Vessel;)Z"⟩, 9) := ⟨⟨by decide +kernel, by decide +kernel⟩, List.mem_of_getElem? (i := 19) (by decide +kernel), List.mem_of_getElem? (i := 434) (by decide +kernel), List.mem_of_getElem? (i := 435) (by decide +kernel)⟩
theorem lw_p15 : lw_okq (⟨"HotAisle$Aisle", "clean", "(LHotAisle$Ladle;)Z"⟩, 9) := ⟨⟨by decide +kernel, by decide +kernel⟩, List.mem_of_getElem? (i := 19) (by decide +kernel), List.mem_of_getElem? (i := 478) (by decide +kernel), List.mem_of_getElem? (i := 479) (by decide +kernel)⟩
def lw_privs_1 : List (MethodName × Nat) := [(⟨"HotAisle$Aisle", "feedFurnace", "()V"⟩, 9), (⟨"HotAisle$Aisle", "feed", "(II)V"⟩, 9), (⟨"HotAisle$Aisle", "blowVessels", "()V"⟩, 9), (⟨"HotAisle$Aisle", "blowParts", "(LHotAisle$Vessel;)V"⟩, 9), (⟨"HotAisle$Aisle", "burn", "(LHotAisle$Vessel;II)V"⟩, 9), (⟨"HotAisle$Aisle", "castAnode", "()V"⟩, 9), (⟨"HotAisle$Aisle", "work", "(LHotAisle$Crane;LHotAisle$Crane;)V"⟩, 9), (⟨"HotAisle$Aisle", "finishFirst", "(LHotAisle$Crane;)V"⟩, 9), (⟨"HotAisle$Aisle", "stepOrWait", "(LHotAisle$Crane;LHotAisle$Crane;)V"⟩, 9), (⟨"HotAisle$Aisle", "isCarriedOut", "(LHotAisle$Crane;)Z"⟩, 9), (⟨"HotAisle$Aisle", "take", "(LHotAisle$Crane;)Z"⟩, 9), (⟨"HotAisle$Aisle", "set", "(LHotAisle$Ladle;)Z"⟩, 9), (⟨"HotAisle$Aisle", "tap", "(LHotAisle$Ladle;)Z"⟩, 9), (⟨"HotAisle$Aisle", "tapStuff", "(LHotAisle$Ladle;II)V"⟩, 9), (⟨"HotAisle$Aisle", "pour", "(LHotAisle$Ladle;LHotAisle$Vessel;)Z"⟩, 9), (⟨"HotAisle$Aisle", "clean", "(LHotAisle$Ladle;)Z"⟩, 9)]
theorem lw_r1 : ∀ q ∈ lw_privs_1, lw_okq q := List.forall_mem_cons.mpr ⟨lw_p0, List.forall_mem_cons.mpr ⟨lw_p1, List.forall_mem_cons.mpr ⟨lw_p2, List.forall_mem_cons.mpr ⟨lw_p3, List.forall_mem_cons.mpr ⟨lw_p4, List.forall_mem_cons.mpr ⟨lw_p5, List.forall_mem_cons.mpr ⟨lw_p6, List.forall_mem_cons.mpr ⟨lw_p7, List.forall_mem_cons.mpr ⟨lw_p8, List.forall_mem_cons.mpr ⟨lw_p9, List.forall_mem_cons.mpr ⟨lw_p10, List.forall_mem_cons.mpr ⟨lw_p11, List.forall_mem_cons.mpr ⟨lw_p12, List.forall_mem_cons.mpr ⟨lw_p13, List.forall_mem_cons.mpr ⟨lw_p14, List.forall_mem_cons.mpr ⟨lw_p15, fun _ h => absurd h List.not_mem_nil⟩⟩⟩⟩⟩⟩⟩⟩⟩⟩⟩⟩⟩⟩⟩⟩
theorem lw_p16 : lw_okq (⟨"HotAisle$Aisle", "inVessels", "(I)I"⟩, 9) := ⟨⟨by decide +kernel, by decide +kernel⟩, List.mem_of_getElem? (i := 19) (by decide +kernel), List.mem_of_getElem? (i := 528) (by decide +kernel), List.mem_of_getElem? (i := 529) (by decide +kernel)⟩
theorem lw_p17 : lw_okq (⟨"HotAisle$Aisle", "inLadles", "(I)I"⟩, 9) := ⟨⟨by decide +kernel, by decide +kernel⟩, List.mem_of_getElem? (i := 19) (by decide +kernel), List.mem_of_getElem? (i := 532) (by decide +kernel), List.mem_of_getElem? (i := 533) (by decide +kernel)⟩
theorem lw_p18 : lw_okq (⟨"HotAisle$Aisle", "inSkulls", "(I)I"⟩, 9) := ⟨⟨by decide +kernel, by decide +kernel⟩, List.mem_of_getElem? (i := 19) (by decide +kernel), List.mem_of_getElem? (i := 536) (by decide +kernel), List.mem_of_getElem? (i := 537) (by decide +kernel)⟩
theorem lw_p19 : lw_okq (⟨"HotAisleModel", "sum", "(I)I"⟩, 3) := ⟨⟨by decide +kernel, by decide +kernel⟩, List.mem_of_getElem? (i := 588) (by decide +kernel), List.mem_of_getElem? (i := 619) (by decide +kernel), List.mem_of_getElem? (i := 620) (by decide +kernel)⟩
theorem lw_p20 : lw_okq (⟨"HotAisleModel", "minute", "()V"⟩, 3) := ⟨⟨by decide +kernel, by decide +kernel⟩, List.mem_of_getElem? (i := 588) (by decide +kernel), List.mem_of_getElem? (i := 639) (by decide +kernel), List.mem_of_getElem? (i := 640) (by decide +kernel)⟩
theorem lw_p21 : lw_okq (⟨"HotAisleModel", "feeds", "()V"⟩, 3) := ⟨⟨by decide +kernel, by decide +kernel⟩, List.mem_of_getElem? (i := 588) (by decide +kernel), List.mem_of_getElem? (i := 643) (by decide +kernel), List.mem_of_getElem? (i := 644) (by decide +kernel)⟩
theorem lw_p22 : lw_okq (⟨"HotAisleModel", "blows", "(I)V"⟩, 3) := ⟨⟨by decide +kernel, by decide +kernel⟩, List.mem_of_getElem? (i := 588) (by decide +kernel), List.mem_of_getElem? (i := 647) (by decide +kernel), List.mem_of_getElem? (i := 648) (by decide +kernel)⟩
theorem lw_p23 : lw_okq (⟨"HotAisleModel", "goes", "(I)V"⟩, 3) := ⟨⟨by decide +kernel, by decide +kernel⟩, List.mem_of_getElem? (i := 588) (by decide +kernel), List.mem_of_getElem? (i := 651) (by decide +kernel), List.mem_of_getElem? (i := 652) (by decide +kernel)⟩
theorem lw_p24 : lw_okq (⟨"HotAisleModel", "finishes", "(I)V"⟩, 3) := ⟨⟨by decide +kernel, by decide +kernel⟩, List.mem_of_getElem? (i := 588) (by decide +kernel), List.mem_of_getElem? (i := 655) (by decide +kernel), List.mem_of_getElem? (i := 656) (by decide +kernel)⟩
theorem lw_p25 : lw_okq (⟨"HotAisleModel", "does", "(II)Z"⟩, 3) := ⟨⟨by decide +kernel, by decide +kernel⟩, List.mem_of_getElem? (i := 588) (by decide +kernel), List.mem_of_getElem? (i := 659) (by decide +kernel), List.mem_of_getElem? (i := 660) (by decide +kernel)⟩
theorem lw_p26 : lw_okq (⟨"HotAisleModel", "takes", "(II)Z"⟩, 3) := ⟨⟨by decide +kernel, by decide +kernel⟩, List.mem_of_getElem? (i := 588) (by decide +kernel), List.mem_of_getElem? (i := 663) (by decide +kernel), List.mem_of_getElem? (i := 664) (by decide +kernel)⟩
theorem lw_p27 : lw_okq (⟨"HotAisleModel", "standsAt", "(I)I"⟩, 3) := ⟨⟨by decide +kernel, by decide +kernel⟩, List.mem_of_getElem? (i := 588) (by decide +kernel), List.mem_of_getElem? (i := 667) (by decide +kernel), List.mem_of_getElem? (i := 668) (by decide +kernel)⟩
theorem lw_p28 : lw_okq (⟨"HotAisleModel", "sets", "(II)Z"⟩, 3) := ⟨⟨by decide +kernel, by decide +kernel⟩, List.mem_of_getElem? (i := 588) (by decide +kernel), List.mem_of_getElem? (i := 671) (by decide +kernel), List.mem_of_getElem? (i := 672) (by decide +kernel)⟩
theorem lw_p29 : lw_okq (⟨"HotAisleModel", "taps", "(II)Z"⟩, 3) := ⟨⟨by decide +kernel, by decide +kernel⟩, List.mem_of_getElem? (i := 588) (by decide +kernel), List.mem_of_getElem? (i := 681) (by decide +kernel), List.mem_of_getElem? (i := 682) (by decide +kernel)⟩
theorem lw_p30 : lw_okq (⟨"HotAisleModel", "room", "(I)I"⟩, 3) := ⟨⟨by decide +kernel, by decide +kernel⟩, List.mem_of_getElem? (i := 588) (by decide +kernel), List.mem_of_getElem? (i := 685) (by decide +kernel), List.mem_of_getElem? (i := 686) (by decide +kernel)⟩
theorem lw_p31 : lw_okq (⟨"HotAisleModel", "moves", "(IIII)V"⟩, 3) := ⟨⟨by decide +kernel, by decide +kernel⟩, List.mem_of_getElem? (i := 588) (by decide +kernel), List.mem_of_getElem? (i := 689) (by decide +kernel), List.mem_of_getElem? (i := 690) (by decide +kernel)⟩
def lw_privs_2 : List (MethodName × Nat) := [(⟨"HotAisle$Aisle", "inVessels", "(I)I"⟩, 9), (⟨"HotAisle$Aisle", "inLadles", "(I)I"⟩, 9), (⟨"HotAisle$Aisle", "inSkulls", "(I)I"⟩, 9), (⟨"HotAisleModel", "sum", "(I)I"⟩, 3), (⟨"HotAisleModel", "minute", "()V"⟩, 3), (⟨"HotAisleModel", "feeds", "()V"⟩, 3), (⟨"HotAisleModel", "blows", "(I)V"⟩, 3), (⟨"HotAisleModel", "goes", "(I)V"⟩, 3), (⟨"HotAisleModel", "finishes", "(I)V"⟩, 3), (⟨"HotAisleModel", "does", "(II)Z"⟩, 3), (⟨"HotAisleModel", "takes", "(II)Z"⟩, 3), (⟨"HotAisleModel", "standsAt", "(I)I"⟩, 3), (⟨"HotAisleModel", "sets", "(II)Z"⟩, 3), (⟨"HotAisleModel", "taps", "(II)Z"⟩, 3), (⟨"HotAisleModel", "room", "(I)I"⟩, 3), (⟨"HotAisleModel", "moves", "(IIII)V"⟩, 3)]
theorem lw_r2 : ∀ q ∈ lw_privs_2, lw_okq q := List.forall_mem_cons.mpr ⟨lw_p16, List.forall_mem_cons.mpr ⟨lw_p17, List.forall_mem_cons.mpr ⟨lw_p18, List.forall_mem_cons.mpr ⟨lw_p19, List.forall_mem_cons.mpr ⟨lw_p20, List.forall_mem_cons.mpr ⟨lw_p21, List.forall_mem_cons.mpr ⟨lw_p22, List.forall_mem_cons.mpr ⟨lw_p23, List.forall_mem_cons.mpr ⟨lw_p24, List.forall_mem_cons.mpr ⟨lw_p25, List.forall_mem_cons.mpr ⟨lw_p26, List.forall_mem_cons.mpr ⟨lw_p27, List.forall_mem_cons.mpr ⟨lw_p28, List.forall_mem_cons.mpr ⟨lw_p29, List.forall_mem_cons.mpr ⟨lw_p30, List.forall_mem_cons.mpr ⟨lw_p31, fun _ h => absurd h List.not_mem_nil⟩⟩⟩⟩⟩⟩⟩⟩⟩⟩⟩⟩⟩⟩⟩⟩
theorem lw_p32 : lw_okq (⟨"HotAisleModel", "pours", "(II)Z"⟩, 3) := ⟨⟨by decide +kernel, by decide +kernel⟩, List.mem_of_getElem? (i := 588) (by decide +kernel), List.mem_of_getElem? (i := 693) (by decide +kernel), List.mem_of_getElem? (i := 694) (by decide +kernel)⟩
theorem lw_p33 : lw_okq (⟨"HotAisleModel", "skulls", "(II)V"⟩, 3) := ⟨⟨by decide +kernel, by decide +kernel⟩, List.mem_of_getElem? (i := 588) (by decide +kernel), List.mem_of_getElem? (i := 697) (by decide +kernel), List.mem_of_getElem? (i := 698) (by decide +kernel)⟩
theorem lw_p34 : lw_okq (⟨"HotAisleModel", "skims", "(II)Z"⟩, 3) := ⟨⟨by decide +kernel, by decide +kernel⟩, List.mem_of_getElem? (i := 588) (by decide +kernel), List.mem_of_getElem? (i := 701) (by decide +kernel), List.mem_of_getElem? (i := 702) (by decide +kernel)⟩
theorem lw_p35 : lw_okq (⟨"HotAisleModel", "draws", "(II)Z"⟩, 3) := ⟨⟨by decide +kernel, by decide +kernel⟩, List.mem_of_getElem? (i := 588) (by decide +kernel), List.mem_of_getElem? (i := 705) (by decide +kernel), List.mem_of_getElem? (i := 706) (by decide +kernel)⟩
theorem lw_p36 : lw_okq (⟨"HotAisleModel", "cleans", "(II)Z"⟩, 3) := ⟨⟨by decide +kernel, by decide +kernel⟩, List.mem_of_getElem? (i := 588) (by decide +kernel), List.mem_of_getElem? (i := 709) (by decide +kernel), List.mem_of_getElem? (i := 710) (by decide +kernel)⟩
theorem lw_p37 : lw_okq (⟨"HotAisleModel", "several", "(III)I"⟩, 3) := ⟨⟨by decide +kernel, by decide +kernel⟩, List.mem_of_getElem? (i := 588) (by decide +kernel), List.mem_of_getElem? (i := 733) (by decide +kernel), List.mem_of_getElem? (i := 734) (by decide +kernel)⟩
def lw_privs_3 : List (MethodName × Nat) := [(⟨"HotAisleModel", "pours", "(II)Z"⟩, 3), (⟨"HotAisleModel", "skulls", "(II)V"⟩, 3), (⟨"HotAisleModel", "skims", "(II)Z"⟩, 3), (⟨"HotAisleModel", "draws", "(II)Z"⟩, 3), (⟨"HotAisleModel", "cleans", "(II)Z"⟩, 3), (⟨"HotAisleModel", "several", "(III)I"⟩, 3)]
theorem lw_r3 : ∀ q ∈ lw_privs_3, lw_okq q := List.forall_mem_cons.mpr ⟨lw_p32, List.forall_mem_cons.mpr ⟨lw_p33, List.forall_mem_cons.mpr ⟨lw_p34, List.forall_mem_cons.mpr ⟨lw_p35, List.forall_mem_cons.mpr ⟨lw_p36, List.forall_mem_cons.mpr ⟨lw_p37, fun _ h => absurd h List.not_mem_nil⟩⟩⟩⟩⟩⟩
def lw_privs : List (MethodName × Nat) := lw_privs_1 ++ (lw_privs_2 ++ (lw_privs_3))
def lw_tbl : List Cond := k2_sels lw_privs ++ tables_1
theorem lw_privs_ok : ∀ q ∈ lw_privs, lw_okq q := by
  show ∀ q ∈ lw_privs_1 ++ (lw_privs_2 ++ (lw_privs_3)), lw_okq q
  exact List.forall_mem_append.mpr ⟨lw_r1, List.forall_mem_append.mpr ⟨lw_r2, lw_r3⟩⟩
-- ===== end of PART A; then your names; then what follows =====
end
section
/-! the words of the tables: all good ones of lw_tbl, each by its place -/
def bw : List Cond := lw_tbl.filter goodWord
theorem bw_in {w : Cond} (k : Nat) (h : lw_tbl[k]? = some w) (hg : goodWord w = true) : w ∈ bw := List.mem_filter.mpr ⟨List.mem_of_getElem? h, hg⟩
theorem bw_tbl {w : Cond} (h : w ∈ bw) : w ∈ lw_tbl := (List.mem_filter.mp h).1
theorem bw_good {w : Cond} (h : w ∈ bw) : goodWord w = true := (List.mem_filter.mp h).2
theorem m_0 : (Cond.selects "HotAisle$Aisle" ⟨"HotAisle$Aisle", "feedFurnace", "()V"⟩ ⟨"HotAisle$Aisle", "feedFurnace", "()V"⟩) ∈ bw := bw_in 0 (by decide +kernel) rfl
theorem m_1 : (Cond.selects "HotAisle$Aisle" ⟨"HotAisle$Aisle", "feed", "(II)V"⟩ ⟨"HotAisle$Aisle", "feed", "(II)V"⟩) ∈ bw := bw_in 1 (by decide +kernel) rfl
theorem m_2 : (Cond.selects "HotAisle$Aisle" ⟨"HotAisle$Aisle", "blowVessels", "()V"⟩ ⟨"HotAisle$Aisle", "blowVessels", "()V"⟩) ∈ bw := bw_in 2 (by decide +kernel) rfl
theorem m_3 : (Cond.selects "HotAisle$Aisle" ⟨"HotAisle$Aisle", "blowParts", "(LHotAisle$Vessel;)V"⟩ ⟨"HotAisle$Aisle", "blowParts", "(LHotAisle$Vessel;)V"⟩) ∈ bw := bw_in 3 (by decide +kernel) rfl
theorem m_4 : (Cond.selects "HotAisle$Aisle" ⟨"HotAisle$Aisle", "burn", "(LHotAisle$Vessel;II)V"⟩ ⟨"HotAisle$Aisle", "burn", "(LHotAisle$Vessel;II)V"⟩) ∈ bw := bw_in 4 (by decide +kernel) rfl
theorem m_5 : (Cond.selects "HotAisle$Aisle" ⟨"HotAisle$Aisle", "castAnode", "()V"⟩ ⟨"HotAisle$Aisle", "castAnode", "()V"⟩) ∈ bw := bw_in 5 (by decide +kernel) rfl
theorem m_6 : (Cond.selects "HotAisle$Aisle" ⟨"HotAisle$Aisle", "work", "(LHotAisle$Crane;LHotAisle$Crane;)V"⟩ ⟨"HotAisle$Aisle", "work", "(LHotAisle$Crane;LHotAisle$Crane;)V"⟩) ∈ bw := bw_in 6 (by decide +kernel) rfl
theorem m_7 : (Cond.selects "HotAisle$Aisle" ⟨"HotAisle$Aisle", "finishFirst", "(LHotAisle$Crane;)V"⟩ ⟨"HotAisle$Aisle", "finishFirst", "(LHotAisle$Crane;)V"⟩) ∈ bw := bw_in 7 (by decide +kernel) rfl
theorem m_8 : (Cond.selects "HotAisle$Aisle" ⟨"HotAisle$Aisle", "stepOrWait", "(LHotAisle$Crane;LHotAisle$Crane;)V"⟩ ⟨"HotAisle$Aisle", "stepOrWait", "(LHotAisle$Crane;LHotAisle$Crane;)V"⟩) ∈ bw := bw_in 8 (by decide +kernel) rfl
theorem m_9 : (Cond.selects "HotAisle$Aisle" ⟨"HotAisle$Aisle", "isCarriedOut", "(LHotAisle$Crane;)Z"⟩ ⟨"HotAisle$Aisle", "isCarriedOut", "(LHotAisle$Crane;)Z"⟩) ∈ bw := bw_in 9 (by decide +kernel) rfl
theorem m_10 : (Cond.selects "HotAisle$Aisle" ⟨"HotAisle$Aisle", "take", "(LHotAisle$Crane;)Z"⟩ ⟨"HotAisle$Aisle", "take", "(LHotAisle$Crane;)Z"⟩) ∈ bw := bw_in 10 (by decide +kernel) rfl
theorem m_11 : (Cond.selects "HotAisle$Aisle" ⟨"HotAisle$Aisle", "set", "(LHotAisle$Ladle;)Z"⟩ ⟨"HotAisle$Aisle", "set", "(LHotAisle$Ladle;)Z"⟩) ∈ bw := bw_in 11 (by decide +kernel) rfl
theorem m_12 : (Cond.selects "HotAisle$Aisle" ⟨"HotAisle$Aisle", "tap", "(LHotAisle$Ladle;)Z"⟩ ⟨"HotAisle$Aisle", "tap", "(LHotAisle$Ladle;)Z"⟩) ∈ bw := bw_in 12 (by decide +kernel) rfl
theorem m_13 : (Cond.selects "HotAisle$Aisle" ⟨"HotAisle$Aisle", "tapStuff", "(LHotAisle$Ladle;II)V"⟩ ⟨"HotAisle$Aisle", "tapStuff", "(LHotAisle$Ladle;II)V"⟩) ∈ bw := bw_in 13 (by decide +kernel) rfl
theorem m_14 : (Cond.selects "HotAisle$Aisle" ⟨"HotAisle$Aisle", "pour", "(LHotAisle$Ladle;LHotAisle$Vessel;)Z"⟩ ⟨"HotAisle$Aisle", "pour", "(LHotAisle$Ladle;LHotAisle$Vessel;)Z"⟩) ∈ bw := bw_in 14 (by decide +kernel) rfl
theorem m_15 : (Cond.selects "HotAisle$Aisle" ⟨"HotAisle$Aisle", "clean", "(LHotAisle$Ladle;)Z"⟩ ⟨"HotAisle$Aisle", "clean", "(LHotAisle$Ladle;)Z"⟩) ∈ bw := bw_in 15 (by decide +kernel) rfl
theorem m_16 : (Cond.selects "HotAisle$Aisle" ⟨"HotAisle$Aisle", "inVessels", "(I)I"⟩ ⟨"HotAisle$Aisle", "inVessels", "(I)I"⟩) ∈ bw := bw_in 16 (by decide +kernel) rfl
theorem m_17 : (Cond.selects "HotAisle$Aisle" ⟨"HotAisle$Aisle", "inLadles", "(I)I"⟩ ⟨"HotAisle$Aisle", "inLadles", "(I)I"⟩) ∈ bw := bw_in 17 (by decide +kernel) rfl
theorem m_18 : (Cond.selects "HotAisle$Aisle" ⟨"HotAisle$Aisle", "inSkulls", "(I)I"⟩ ⟨"HotAisle$Aisle", "inSkulls", "(I)I"⟩) ∈ bw := bw_in 18 (by decide +kernel) rfl
theorem m_19 : (Cond.selects "HotAisleModel" ⟨"HotAisleModel", "sum", "(I)I"⟩ ⟨"HotAisleModel", "sum", "(I)I"⟩) ∈ bw := bw_in 19 (by decide +kernel) rfl
theorem m_20 : (Cond.selects "HotAisleModel" ⟨"HotAisleModel", "minute", "()V"⟩ ⟨"HotAisleModel", "minute", "()V"⟩) ∈ bw := bw_in 20 (by decide +kernel) rfl
theorem m_21 : (Cond.selects "HotAisleModel" ⟨"HotAisleModel", "feeds", "()V"⟩ ⟨"HotAisleModel", "feeds", "()V"⟩) ∈ bw := bw_in 21 (by decide +kernel) rfl
theorem m_22 : (Cond.selects "HotAisleModel" ⟨"HotAisleModel", "blows", "(I)V"⟩ ⟨"HotAisleModel", "blows", "(I)V"⟩) ∈ bw := bw_in 22 (by decide +kernel) rfl
theorem m_23 : (Cond.selects "HotAisleModel" ⟨"HotAisleModel", "goes", "(I)V"⟩ ⟨"HotAisleModel", "goes", "(I)V"⟩) ∈ bw := bw_in 23 (by decide +kernel) rfl
theorem m_24 : (Cond.selects "HotAisleModel" ⟨"HotAisleModel", "finishes", "(I)V"⟩ ⟨"HotAisleModel", "finishes", "(I)V"⟩) ∈ bw := bw_in 24 (by decide +kernel) rfl
theorem m_25 : (Cond.selects "HotAisleModel" ⟨"HotAisleModel", "does", "(II)Z"⟩ ⟨"HotAisleModel", "does", "(II)Z"⟩) ∈ bw := bw_in 25 (by decide +kernel) rfl
theorem m_26 : (Cond.selects "HotAisleModel" ⟨"HotAisleModel", "takes", "(II)Z"⟩ ⟨"HotAisleModel", "takes", "(II)Z"⟩) ∈ bw := bw_in 26 (by decide +kernel) rfl
theorem m_27 : (Cond.selects "HotAisleModel" ⟨"HotAisleModel", "standsAt", "(I)I"⟩ ⟨"HotAisleModel", "standsAt", "(I)I"⟩) ∈ bw := bw_in 27 (by decide +kernel) rfl
theorem m_28 : (Cond.selects "HotAisleModel" ⟨"HotAisleModel", "sets", "(II)Z"⟩ ⟨"HotAisleModel", "sets", "(II)Z"⟩) ∈ bw := bw_in 28 (by decide +kernel) rfl
theorem m_29 : (Cond.selects "HotAisleModel" ⟨"HotAisleModel", "taps", "(II)Z"⟩ ⟨"HotAisleModel", "taps", "(II)Z"⟩) ∈ bw := bw_in 29 (by decide +kernel) rfl
theorem m_30 : (Cond.selects "HotAisleModel" ⟨"HotAisleModel", "room", "(I)I"⟩ ⟨"HotAisleModel", "room", "(I)I"⟩) ∈ bw := bw_in 30 (by decide +kernel) rfl
theorem m_31 : (Cond.selects "HotAisleModel" ⟨"HotAisleModel", "moves", "(IIII)V"⟩ ⟨"HotAisleModel", "moves", "(IIII)V"⟩) ∈ bw := bw_in 31 (by decide +kernel) rfl
theorem m_32 : (Cond.selects "HotAisleModel" ⟨"HotAisleModel", "pours", "(II)Z"⟩ ⟨"HotAisleModel", "pours", "(II)Z"⟩) ∈ bw := bw_in 32 (by decide +kernel) rfl
theorem m_33 : (Cond.selects "HotAisleModel" ⟨"HotAisleModel", "skulls", "(II)V"⟩ ⟨"HotAisleModel", "skulls", "(II)V"⟩) ∈ bw := bw_in 33 (by decide +kernel) rfl
theorem m_34 : (Cond.selects "HotAisleModel" ⟨"HotAisleModel", "skims", "(II)Z"⟩ ⟨"HotAisleModel", "skims", "(II)Z"⟩) ∈ bw := bw_in 34 (by decide +kernel) rfl
theorem m_35 : (Cond.selects "HotAisleModel" ⟨"HotAisleModel", "draws", "(II)Z"⟩ ⟨"HotAisleModel", "draws", "(II)Z"⟩) ∈ bw := bw_in 35 (by decide +kernel) rfl
theorem m_36 : (Cond.selects "HotAisleModel" ⟨"HotAisleModel", "cleans", "(II)Z"⟩ ⟨"HotAisleModel", "cleans", "(II)Z"⟩) ∈ bw := bw_in 36 (by decide +kernel) rfl
theorem m_37 : (Cond.selects "HotAisleModel" ⟨"HotAisleModel", "several", "(III)I"⟩ ⟨"HotAisleModel", "several", "(III)I"⟩) ∈ bw := bw_in 37 (by decide +kernel) rfl
theorem m_38 : (Cond.initialized "HotAisleLaw") ∈ bw := bw_in 38 (by decide +kernel) rfl
theorem m_39 : (Cond.initialized "HotAisle") ∈ bw := bw_in 39 (by decide +kernel) rfl
theorem m_40 : (Cond.initialized "HotAisle$Aisle") ∈ bw := bw_in 40 (by decide +kernel) rfl
theorem m_41 : (Cond.initialized "HotAisle$Stuff") ∈ bw := bw_in 41 (by decide +kernel) rfl
theorem m_42 : (Cond.initialized "HotAisle$Crane") ∈ bw := bw_in 42 (by decide +kernel) rfl
theorem m_43 : (Cond.initialized "HotAisle$Books") ∈ bw := bw_in 43 (by decide +kernel) rfl
theorem m_44 : (Cond.initialized "HotAisle$Vessel") ∈ bw := bw_in 44 (by decide +kernel) rfl
theorem m_45 : (Cond.initialized "HotAisle$Ladle") ∈ bw := bw_in 45 (by decide +kernel) rfl
theorem m_46 : (Cond.initialized "HotAisleModel") ∈ bw := bw_in 46 (by decide +kernel) rfl
theorem m_47 : (Cond.initialized "java/lang/Math") ∈ bw := bw_in 47 (by decide +kernel) rfl
theorem m_48 : (Cond.classLink "HotAisleLaw" 7 "HotAisle") ∈ bw := bw_in 48 (by decide +kernel) rfl
theorem m_49 : (Cond.instantiable "HotAisle" 3) ∈ bw := bw_in 49 (by decide +kernel) rfl
theorem m_50 : (Cond.methodLink "HotAisleLaw" 9 ⟨"HotAisle", "<init>", "()V"⟩) ∈ bw := bw_in 50 (by decide +kernel) rfl
theorem m_51 : (Cond.instanceMethod ⟨"HotAisle", "<init>", "()V"⟩) ∈ bw := bw_in 51 (by decide +kernel) rfl
theorem m_52 : (Cond.code ⟨"HotAisle", "<init>", "()V"⟩ prog_1_method_1_code 2 (none : Option Jvm.ClassFile.FieldType)) ∈ bw := bw_in 52 (by decide +kernel) rfl
theorem m_53 : (Cond.methodLink "HotAisle" 1 ⟨"java/lang/Object", "<init>", "()V"⟩) ∈ bw := bw_in 53 (by decide +kernel) rfl
theorem m_54 : (Cond.instanceMethod ⟨"java/lang/Object", "<init>", "()V"⟩) ∈ bw := bw_in 54 (by decide +kernel) rfl
theorem m_55 : (Cond.code ⟨"java/lang/Object", "<init>", "()V"⟩ object_method_1_code 1 (none : Option Jvm.ClassFile.FieldType)) ∈ bw := bw_in 55 (by decide +kernel) rfl
theorem m_56 : (Cond.classLink "HotAisle" 7 "HotAisle$Aisle") ∈ bw := bw_in 56 (by decide +kernel) rfl
theorem m_57 : (Cond.instantiable "HotAisle$Aisle" 9) ∈ bw := bw_in 57 (by decide +kernel) rfl
theorem m_58 : (Cond.methodLink "HotAisle" 9 ⟨"HotAisle$Aisle", "<init>", "()V"⟩) ∈ bw := bw_in 58 (by decide +kernel) rfl
theorem m_59 : (Cond.instanceMethod ⟨"HotAisle$Aisle", "<init>", "()V"⟩) ∈ bw := bw_in 59 (by decide +kernel) rfl
theorem m_60 : (Cond.code ⟨"HotAisle$Aisle", "<init>", "()V"⟩ prog_2_method_1_code 2 (none : Option Jvm.ClassFile.FieldType)) ∈ bw := bw_in 60 (by decide +kernel) rfl
theorem m_61 : (Cond.methodLink "HotAisle$Aisle" 3 ⟨"java/lang/Object", "<init>", "()V"⟩) ∈ bw := bw_in 61 (by decide +kernel) rfl
theorem m_62 : (Cond.classLink "HotAisle$Aisle" 9 "HotAisle$Stuff") ∈ bw := bw_in 62 (by decide +kernel) rfl
theorem m_63 : (Cond.instantiable "HotAisle$Stuff" 4) ∈ bw := bw_in 63 (by decide +kernel) rfl
theorem m_65 : (Cond.instanceMethod ⟨"HotAisle$Stuff", "<init>", "()V"⟩) ∈ bw := bw_in 65 (by decide +kernel) rfl
theorem m_66 : (Cond.code ⟨"HotAisle$Stuff", "<init>", "()V"⟩ prog_6_method_1_code 1 (none : Option Jvm.ClassFile.FieldType)) ∈ bw := bw_in 66 (by decide +kernel) rfl
theorem m_67 : (Cond.methodLink "HotAisle$Stuff" 3 ⟨"java/lang/Object", "<init>", "()V"⟩) ∈ bw := bw_in 67 (by decide +kernel) rfl
theorem m_68 : (Cond.fieldLink "HotAisle$Stuff" 9 "HotAisle$Stuff" "copper" "I") ∈ bw := bw_in 68 (by decide +kernel) rfl
theorem m_69 : (Cond.fieldLink "HotAisle$Vessel" 51 "HotAisle$Stuff" "copper" "I") ∈ bw := bw_in 69 (by decide +kernel) rfl
theorem m_70 : (Cond.fieldLink "HotAisle" 59 "HotAisle$Stuff" "copper" "I") ∈ bw := bw_in 70 (by decide +kernel) rfl
theorem m_71 : (Cond.fieldLink "HotAisle$Aisle" 209 "HotAisle$Stuff" "copper" "I") ∈ bw := bw_in 71 (by decide +kernel) rfl
theorem m_72 : (Cond.fieldLink "HotAisle$Stuff" 15 "HotAisle$Stuff" "iron" "I") ∈ bw := bw_in 72 (by decide +kernel) rfl
theorem m_73 : (Cond.fieldLink "HotAisle$Aisle" 197 "HotAisle$Stuff" "iron" "I") ∈ bw := bw_in 73 (by decide +kernel) rfl
theorem m_74 : (Cond.fieldLink "HotAisle$Stuff" 18 "HotAisle$Stuff" "sulphur" "I") ∈ bw := bw_in 74 (by decide +kernel) rfl
theorem m_75 : (Cond.fieldLink "HotAisle$Books" 37 "HotAisle$Stuff" "sulphur" "I") ∈ bw := bw_in 75 (by decide +kernel) rfl
theorem m_76 : (Cond.fieldLink "HotAisle$Aisle" 206 "HotAisle$Stuff" "sulphur" "I") ∈ bw := bw_in 76 (by decide +kernel) rfl
theorem m_77 : (Cond.fieldLink "HotAisle$Stuff" 21 "HotAisle$Stuff" "slag" "I") ∈ bw := bw_in 77 (by decide +kernel) rfl
theorem m_78 : (Cond.fieldLink "HotAisle$Aisle" 222 "HotAisle$Stuff" "slag" "I") ∈ bw := bw_in 78 (by decide +kernel) rfl
theorem m_79 : (Cond.lays "HotAisle$Stuff" "HotAisle$Stuff" "copper" "I") ∈ bw := bw_in 79 (by decide +kernel) rfl
theorem m_81 : (Cond.lays "HotAisle$Stuff" "HotAisle$Stuff" "iron" "I") ∈ bw := bw_in 81 (by decide +kernel) rfl
theorem m_83 : (Cond.lays "HotAisle$Stuff" "HotAisle$Stuff" "sulphur" "I") ∈ bw := bw_in 83 (by decide +kernel) rfl
theorem m_85 : (Cond.lays "HotAisle$Stuff" "HotAisle$Stuff" "slag" "I") ∈ bw := bw_in 85 (by decide +kernel) rfl
theorem m_90 : (Cond.classLink "HotAisle$Aisle" 22 "HotAisle$Vessel") ∈ bw := bw_in 90 (by decide +kernel) rfl
theorem m_94 : (Cond.classLink "HotAisle$Aisle" 31 "HotAisle$Ladle") ∈ bw := bw_in 94 (by decide +kernel) rfl
theorem m_96 : (Cond.classLink "HotAisle$Aisle" 37 "HotAisle$Crane") ∈ bw := bw_in 96 (by decide +kernel) rfl
theorem m_97 : (Cond.instantiable "HotAisle$Crane" 6) ∈ bw := bw_in 97 (by decide +kernel) rfl
theorem m_98 : (Cond.methodLink "HotAisle$Aisle" 39 ⟨"HotAisle$Crane", "<init>", "(II)V"⟩) ∈ bw := bw_in 98 (by decide +kernel) rfl
theorem m_99 : (Cond.instanceMethod ⟨"HotAisle$Crane", "<init>", "(II)V"⟩) ∈ bw := bw_in 99 (by decide +kernel) rfl
theorem m_100 : (Cond.code ⟨"HotAisle$Crane", "<init>", "(II)V"⟩ prog_4_method_1_code 3 (none : Option Jvm.ClassFile.FieldType)) ∈ bw := bw_in 100 (by decide +kernel) rfl
theorem m_101 : (Cond.methodLink "HotAisle$Crane" 3 ⟨"java/lang/Object", "<init>", "()V"⟩) ∈ bw := bw_in 101 (by decide +kernel) rfl
theorem m_102 : (Cond.fieldLink "HotAisle$Crane" 18 "HotAisle$Crane" "number" "I") ∈ bw := bw_in 102 (by decide +kernel) rfl
theorem m_103 : (Cond.fieldLink "HotAisle$Aisle" 101 "HotAisle$Crane" "number" "I") ∈ bw := bw_in 103 (by decide +kernel) rfl
theorem m_104 : (Cond.fieldLink "HotAisle$Crane" 9 "HotAisle$Crane" "whats" "[I") ∈ bw := bw_in 104 (by decide +kernel) rfl
theorem m_105 : (Cond.fieldLink "HotAisle$Crane" 15 "HotAisle$Crane" "targets" "[I") ∈ bw := bw_in 105 (by decide +kernel) rfl
theorem m_106 : (Cond.fieldLink "HotAisle$Crane" 22 "HotAisle$Crane" "place" "I") ∈ bw := bw_in 106 (by decide +kernel) rfl
theorem m_107 : (Cond.fieldLink "HotAisle$Aisle" 256 "HotAisle$Crane" "place" "I") ∈ bw := bw_in 107 (by decide +kernel) rfl
theorem m_108 : (Cond.fieldLink "HotAisle$Crane" 25 "HotAisle$Crane" "orders" "I") ∈ bw := bw_in 108 (by decide +kernel) rfl
theorem m_109 : (Cond.fieldLink "HotAisle" 84 "HotAisle$Crane" "orders" "I") ∈ bw := bw_in 109 (by decide +kernel) rfl
theorem m_110 : (Cond.fieldLink "HotAisle$Aisle" 105 "HotAisle$Crane" "orders" "I") ∈ bw := bw_in 110 (by decide +kernel) rfl
theorem m_111 : (Cond.fieldLink "HotAisle$Crane" 32 "HotAisle$Crane" "waits" "I") ∈ bw := bw_in 111 (by decide +kernel) rfl
theorem m_112 : (Cond.fieldLink "HotAisle$Aisle" 244 "HotAisle$Crane" "waits" "I") ∈ bw := bw_in 112 (by decide +kernel) rfl
theorem m_113 : (Cond.laysFinal "HotAisle$Crane" "HotAisle$Crane" "number" "I") ∈ bw := bw_in 113 (by decide +kernel) rfl
theorem m_115 : (Cond.laysFinal "HotAisle$Crane" "HotAisle$Crane" "whats" "[I") ∈ bw := bw_in 115 (by decide +kernel) rfl
theorem m_117 : (Cond.laysFinal "HotAisle$Crane" "HotAisle$Crane" "targets" "[I") ∈ bw := bw_in 117 (by decide +kernel) rfl
theorem m_119 : (Cond.lays "HotAisle$Crane" "HotAisle$Crane" "place" "I") ∈ bw := bw_in 119 (by decide +kernel) rfl
theorem m_121 : (Cond.lays "HotAisle$Crane" "HotAisle$Crane" "orders" "I") ∈ bw := bw_in 121 (by decide +kernel) rfl
theorem m_123 : (Cond.lays "HotAisle$Crane" "HotAisle$Crane" "waits" "I") ∈ bw := bw_in 123 (by decide +kernel) rfl
theorem m_126 : (Cond.arrayClass FieldType.int) ∈ bw := bw_in 126 (by decide +kernel) rfl
theorem m_127 : (Cond.classLink "HotAisle$Aisle" 49 "HotAisle$Books") ∈ bw := bw_in 127 (by decide +kernel) rfl
theorem m_128 : (Cond.instantiable "HotAisle$Books" 12) ∈ bw := bw_in 128 (by decide +kernel) rfl
theorem m_130 : (Cond.instanceMethod ⟨"HotAisle$Books", "<init>", "()V"⟩) ∈ bw := bw_in 130 (by decide +kernel) rfl
theorem m_131 : (Cond.code ⟨"HotAisle$Books", "<init>", "()V"⟩ prog_3_method_1_code 1 (none : Option Jvm.ClassFile.FieldType)) ∈ bw := bw_in 131 (by decide +kernel) rfl
theorem m_132 : (Cond.methodLink "HotAisle$Books" 3 ⟨"java/lang/Object", "<init>", "()V"⟩) ∈ bw := bw_in 132 (by decide +kernel) rfl
theorem m_133 : (Cond.classLink "HotAisle$Books" 9 "HotAisle$Stuff") ∈ bw := bw_in 133 (by decide +kernel) rfl
theorem m_135 : (Cond.fieldLink "HotAisle$Books" 12 "HotAisle$Books" "pot" "LHotAisle$Stuff;") ∈ bw := bw_in 135 (by decide +kernel) rfl
theorem m_136 : (Cond.fieldLink "HotAisle$Aisle" 124 "HotAisle$Books" "pot" "LHotAisle$Stuff;") ∈ bw := bw_in 136 (by decide +kernel) rfl
theorem m_137 : (Cond.fieldLink "HotAisle$Books" 18 "HotAisle$Books" "givenBack" "LHotAisle$Stuff;") ∈ bw := bw_in 137 (by decide +kernel) rfl
theorem m_138 : (Cond.fieldLink "HotAisle$Aisle" 127 "HotAisle$Books" "givenBack" "LHotAisle$Stuff;") ∈ bw := bw_in 138 (by decide +kernel) rfl
theorem m_139 : (Cond.fieldLink "HotAisle$Books" 21 "HotAisle$Books" "cleanedOff" "LHotAisle$Stuff;") ∈ bw := bw_in 139 (by decide +kernel) rfl
theorem m_140 : (Cond.fieldLink "HotAisle$Aisle" 130 "HotAisle$Books" "cleanedOff" "LHotAisle$Stuff;") ∈ bw := bw_in 140 (by decide +kernel) rfl
theorem m_141 : (Cond.fieldLink "HotAisle$Books" 24 "HotAisle$Books" "cameIn" "LHotAisle$Stuff;") ∈ bw := bw_in 141 (by decide +kernel) rfl
theorem m_142 : (Cond.fieldLink "HotAisle" 66 "HotAisle$Books" "cameIn" "LHotAisle$Stuff;") ∈ bw := bw_in 142 (by decide +kernel) rfl
theorem m_143 : (Cond.fieldLink "HotAisle$Aisle" 133 "HotAisle$Books" "cameIn" "LHotAisle$Stuff;") ∈ bw := bw_in 143 (by decide +kernel) rfl
theorem m_144 : (Cond.fieldLink "HotAisle$Books" 27 "HotAisle$Books" "becameOther" "LHotAisle$Stuff;") ∈ bw := bw_in 144 (by decide +kernel) rfl
theorem m_145 : (Cond.fieldLink "HotAisle$Aisle" 136 "HotAisle$Books" "becameOther" "LHotAisle$Stuff;") ∈ bw := bw_in 145 (by decide +kernel) rfl
theorem m_146 : (Cond.fieldLink "HotAisle$Books" 30 "HotAisle$Books" "cameOfOthers" "LHotAisle$Stuff;") ∈ bw := bw_in 146 (by decide +kernel) rfl
theorem m_147 : (Cond.fieldLink "HotAisle$Aisle" 139 "HotAisle$Books" "cameOfOthers" "LHotAisle$Stuff;") ∈ bw := bw_in 147 (by decide +kernel) rfl
theorem m_148 : (Cond.fieldLink "HotAisle$Books" 33 "HotAisle$Books" "minutesPassed" "I") ∈ bw := bw_in 148 (by decide +kernel) rfl
theorem m_149 : (Cond.fieldLink "HotAisle$Aisle" 149 "HotAisle$Books" "minutesPassed" "I") ∈ bw := bw_in 149 (by decide +kernel) rfl
theorem m_150 : (Cond.fieldLink "HotAisle" 125 "HotAisle$Books" "minutesPassed" "I") ∈ bw := bw_in 150 (by decide +kernel) rfl
theorem m_151 : (Cond.fieldLink "HotAisle$Books" 40 "HotAisle$Books" "gasOfMinute" "I") ∈ bw := bw_in 151 (by decide +kernel) rfl
theorem m_152 : (Cond.fieldLink "HotAisle$Aisle" 178 "HotAisle$Books" "gasOfMinute" "I") ∈ bw := bw_in 152 (by decide +kernel) rfl
theorem m_153 : (Cond.fieldLink "HotAisle$Books" 43 "HotAisle$Books" "anodes" "I") ∈ bw := bw_in 153 (by decide +kernel) rfl
theorem m_154 : (Cond.fieldLink "HotAisle$Aisle" 121 "HotAisle$Books" "anodes" "I") ∈ bw := bw_in 154 (by decide +kernel) rfl
theorem m_155 : (Cond.fieldLink "HotAisle$Books" 46 "HotAisle$Books" "starved" "I") ∈ bw := bw_in 155 (by decide +kernel) rfl
theorem m_156 : (Cond.fieldLink "HotAisle$Aisle" 225 "HotAisle$Books" "starved" "I") ∈ bw := bw_in 156 (by decide +kernel) rfl
theorem m_157 : (Cond.fieldLink "HotAisle$Books" 49 "HotAisle$Books" "fullMinutes" "I") ∈ bw := bw_in 157 (by decide +kernel) rfl
theorem m_158 : (Cond.fieldLink "HotAisle$Aisle" 169 "HotAisle$Books" "fullMinutes" "I") ∈ bw := bw_in 158 (by decide +kernel) rfl
theorem m_159 : (Cond.fieldLink "HotAisle$Books" 52 "HotAisle$Books" "ordersDone" "I") ∈ bw := bw_in 159 (by decide +kernel) rfl
theorem m_160 : (Cond.fieldLink "HotAisle" 87 "HotAisle$Books" "ordersDone" "I") ∈ bw := bw_in 160 (by decide +kernel) rfl
theorem m_161 : (Cond.fieldLink "HotAisle$Aisle" 250 "HotAisle$Books" "ordersDone" "I") ∈ bw := bw_in 161 (by decide +kernel) rfl
theorem m_162 : (Cond.laysFinal "HotAisle$Books" "HotAisle$Books" "pot" "LHotAisle$Stuff;") ∈ bw := bw_in 162 (by decide +kernel) rfl
theorem m_164 : (Cond.laysFinal "HotAisle$Books" "HotAisle$Books" "givenBack" "LHotAisle$Stuff;") ∈ bw := bw_in 164 (by decide +kernel) rfl
theorem m_166 : (Cond.laysFinal "HotAisle$Books" "HotAisle$Books" "cleanedOff" "LHotAisle$Stuff;") ∈ bw := bw_in 166 (by decide +kernel) rfl
theorem m_168 : (Cond.laysFinal "HotAisle$Books" "HotAisle$Books" "cameIn" "LHotAisle$Stuff;") ∈ bw := bw_in 168 (by decide +kernel) rfl
theorem m_170 : (Cond.laysFinal "HotAisle$Books" "HotAisle$Books" "becameOther" "LHotAisle$Stuff;") ∈ bw := bw_in 170 (by decide +kernel) rfl
theorem m_172 : (Cond.laysFinal "HotAisle$Books" "HotAisle$Books" "cameOfOthers" "LHotAisle$Stuff;") ∈ bw := bw_in 172 (by decide +kernel) rfl
theorem m_174 : (Cond.lays "HotAisle$Books" "HotAisle$Books" "minutesPassed" "I") ∈ bw := bw_in 174 (by decide +kernel) rfl
theorem m_176 : (Cond.lays "HotAisle$Books" "HotAisle$Books" "gasOfMinute" "I") ∈ bw := bw_in 176 (by decide +kernel) rfl
theorem m_178 : (Cond.lays "HotAisle$Books" "HotAisle$Books" "anodes" "I") ∈ bw := bw_in 178 (by decide +kernel) rfl
theorem m_180 : (Cond.lays "HotAisle$Books" "HotAisle$Books" "starved" "I") ∈ bw := bw_in 180 (by decide +kernel) rfl
theorem m_182 : (Cond.lays "HotAisle$Books" "HotAisle$Books" "fullMinutes" "I") ∈ bw := bw_in 182 (by decide +kernel) rfl
theorem m_184 : (Cond.lays "HotAisle$Books" "HotAisle$Books" "ordersDone" "I") ∈ bw := bw_in 184 (by decide +kernel) rfl
theorem m_187 : (Cond.instantiable "HotAisle$Vessel" 6) ∈ bw := bw_in 187 (by decide +kernel) rfl
theorem m_188 : (Cond.methodLink "HotAisle$Aisle" 60 ⟨"HotAisle$Vessel", "<init>", "(I)V"⟩) ∈ bw := bw_in 188 (by decide +kernel) rfl
theorem m_189 : (Cond.instanceMethod ⟨"HotAisle$Vessel", "<init>", "(I)V"⟩) ∈ bw := bw_in 189 (by decide +kernel) rfl
theorem m_190 : (Cond.code ⟨"HotAisle$Vessel", "<init>", "(I)V"⟩ prog_7_method_1_code 2 (none : Option Jvm.ClassFile.FieldType)) ∈ bw := bw_in 190 (by decide +kernel) rfl
theorem m_191 : (Cond.methodLink "HotAisle$Vessel" 3 ⟨"java/lang/Object", "<init>", "()V"⟩) ∈ bw := bw_in 191 (by decide +kernel) rfl
theorem m_192 : (Cond.classLink "HotAisle$Vessel" 9 "HotAisle$Stuff") ∈ bw := bw_in 192 (by decide +kernel) rfl
theorem m_194 : (Cond.fieldLink "HotAisle$Vessel" 22 "HotAisle$Vessel" "place" "I") ∈ bw := bw_in 194 (by decide +kernel) rfl
theorem m_195 : (Cond.fieldLink "HotAisle$Aisle" 91 "HotAisle$Vessel" "place" "I") ∈ bw := bw_in 195 (by decide +kernel) rfl
theorem m_196 : (Cond.fieldLink "HotAisle$Vessel" 12 "HotAisle$Vessel" "stuff" "LHotAisle$Stuff;") ∈ bw := bw_in 196 (by decide +kernel) rfl
theorem m_197 : (Cond.fieldLink "HotAisle" 40 "HotAisle$Vessel" "stuff" "LHotAisle$Stuff;") ∈ bw := bw_in 197 (by decide +kernel) rfl
theorem m_198 : (Cond.fieldLink "HotAisle$Aisle" 142 "HotAisle$Vessel" "stuff" "LHotAisle$Stuff;") ∈ bw := bw_in 198 (by decide +kernel) rfl
theorem m_199 : (Cond.fieldLink "HotAisle$Vessel" 18 "HotAisle$Vessel" "heat" "I") ∈ bw := bw_in 199 (by decide +kernel) rfl
theorem m_200 : (Cond.fieldLink "HotAisle" 71 "HotAisle$Vessel" "heat" "I") ∈ bw := bw_in 200 (by decide +kernel) rfl
theorem m_201 : (Cond.fieldLink "HotAisle$Aisle" 215 "HotAisle$Vessel" "heat" "I") ∈ bw := bw_in 201 (by decide +kernel) rfl
theorem m_202 : (Cond.fieldLink "HotAisle$Vessel" 37 "HotAisle$Vessel" "held" "I") ∈ bw := bw_in 202 (by decide +kernel) rfl
theorem m_203 : (Cond.fieldLink "HotAisle$Aisle" 212 "HotAisle$Vessel" "held" "I") ∈ bw := bw_in 203 (by decide +kernel) rfl
theorem m_204 : (Cond.fieldLink "HotAisle$Vessel" 40 "HotAisle$Vessel" "stopped" "I") ∈ bw := bw_in 204 (by decide +kernel) rfl
theorem m_205 : (Cond.fieldLink "HotAisle$Aisle" 194 "HotAisle$Vessel" "stopped" "I") ∈ bw := bw_in 205 (by decide +kernel) rfl
theorem m_206 : (Cond.fieldLink "HotAisle$Vessel" 25 "HotAisle$Vessel" "isBlown" "Z") ∈ bw := bw_in 206 (by decide +kernel) rfl
theorem m_207 : (Cond.fieldLink "HotAisle" 52 "HotAisle$Vessel" "isBlown" "Z") ∈ bw := bw_in 207 (by decide +kernel) rfl
theorem m_208 : (Cond.fieldLink "HotAisle$Aisle" 181 "HotAisle$Vessel" "isBlown" "Z") ∈ bw := bw_in 208 (by decide +kernel) rfl
theorem m_209 : (Cond.laysFinal "HotAisle$Vessel" "HotAisle$Vessel" "place" "I") ∈ bw := bw_in 209 (by decide +kernel) rfl
theorem m_211 : (Cond.laysFinal "HotAisle$Vessel" "HotAisle$Vessel" "stuff" "LHotAisle$Stuff;") ∈ bw := bw_in 211 (by decide +kernel) rfl
theorem m_213 : (Cond.lays "HotAisle$Vessel" "HotAisle$Vessel" "heat" "I") ∈ bw := bw_in 213 (by decide +kernel) rfl
theorem m_215 : (Cond.lays "HotAisle$Vessel" "HotAisle$Vessel" "held" "I") ∈ bw := bw_in 215 (by decide +kernel) rfl
theorem m_217 : (Cond.lays "HotAisle$Vessel" "HotAisle$Vessel" "stopped" "I") ∈ bw := bw_in 217 (by decide +kernel) rfl
theorem m_219 : (Cond.lays "HotAisle$Vessel" "HotAisle$Vessel" "isBlown" "Z") ∈ bw := bw_in 219 (by decide +kernel) rfl
theorem m_222 : (Cond.instantiable "HotAisle$Ladle" 5) ∈ bw := bw_in 222 (by decide +kernel) rfl
theorem m_223 : (Cond.methodLink "HotAisle$Aisle" 63 ⟨"HotAisle$Ladle", "<init>", "(I)V"⟩) ∈ bw := bw_in 223 (by decide +kernel) rfl
theorem m_224 : (Cond.instanceMethod ⟨"HotAisle$Ladle", "<init>", "(I)V"⟩) ∈ bw := bw_in 224 (by decide +kernel) rfl
theorem m_225 : (Cond.code ⟨"HotAisle$Ladle", "<init>", "(I)V"⟩ prog_5_method_1_code 2 (none : Option Jvm.ClassFile.FieldType)) ∈ bw := bw_in 225 (by decide +kernel) rfl
theorem m_226 : (Cond.methodLink "HotAisle$Ladle" 3 ⟨"java/lang/Object", "<init>", "()V"⟩) ∈ bw := bw_in 226 (by decide +kernel) rfl
theorem m_227 : (Cond.classLink "HotAisle$Ladle" 9 "HotAisle$Stuff") ∈ bw := bw_in 227 (by decide +kernel) rfl
theorem m_229 : (Cond.fieldLink "HotAisle$Ladle" 12 "HotAisle$Ladle" "stuff" "LHotAisle$Stuff;") ∈ bw := bw_in 229 (by decide +kernel) rfl
theorem m_230 : (Cond.fieldLink "HotAisle$Aisle" 145 "HotAisle$Ladle" "stuff" "LHotAisle$Stuff;") ∈ bw := bw_in 230 (by decide +kernel) rfl
theorem m_231 : (Cond.fieldLink "HotAisle$Ladle" 18 "HotAisle$Ladle" "skull" "LHotAisle$Stuff;") ∈ bw := bw_in 231 (by decide +kernel) rfl
theorem m_232 : (Cond.fieldLink "HotAisle$Aisle" 146 "HotAisle$Ladle" "skull" "LHotAisle$Stuff;") ∈ bw := bw_in 232 (by decide +kernel) rfl
theorem m_233 : (Cond.fieldLink "HotAisle$Ladle" 28 "HotAisle$Ladle" "place" "I") ∈ bw := bw_in 233 (by decide +kernel) rfl
theorem m_234 : (Cond.fieldLink "HotAisle$Aisle" 104 "HotAisle$Ladle" "place" "I") ∈ bw := bw_in 234 (by decide +kernel) rfl
theorem m_235 : (Cond.fieldLink "HotAisle$Ladle" 21 "HotAisle$Ladle" "carrier" "I") ∈ bw := bw_in 235 (by decide +kernel) rfl
theorem m_236 : (Cond.fieldLink "HotAisle$Aisle" 98 "HotAisle$Ladle" "carrier" "I") ∈ bw := bw_in 236 (by decide +kernel) rfl
theorem m_237 : (Cond.fieldLink "HotAisle$Ladle" 25 "HotAisle$Ladle" "sort" "I") ∈ bw := bw_in 237 (by decide +kernel) rfl
theorem m_238 : (Cond.fieldLink "HotAisle$Aisle" 298 "HotAisle$Ladle" "sort" "I") ∈ bw := bw_in 238 (by decide +kernel) rfl
theorem m_239 : (Cond.laysFinal "HotAisle$Ladle" "HotAisle$Ladle" "stuff" "LHotAisle$Stuff;") ∈ bw := bw_in 239 (by decide +kernel) rfl
theorem m_241 : (Cond.laysFinal "HotAisle$Ladle" "HotAisle$Ladle" "skull" "LHotAisle$Stuff;") ∈ bw := bw_in 241 (by decide +kernel) rfl
theorem m_243 : (Cond.lays "HotAisle$Ladle" "HotAisle$Ladle" "place" "I") ∈ bw := bw_in 243 (by decide +kernel) rfl
theorem m_245 : (Cond.lays "HotAisle$Ladle" "HotAisle$Ladle" "carrier" "I") ∈ bw := bw_in 245 (by decide +kernel) rfl
theorem m_247 : (Cond.lays "HotAisle$Ladle" "HotAisle$Ladle" "sort" "I") ∈ bw := bw_in 247 (by decide +kernel) rfl
theorem m_250 : (Cond.fieldLink "HotAisle$Aisle" 12 "HotAisle$Aisle" "furnace" "LHotAisle$Stuff;") ∈ bw := bw_in 250 (by decide +kernel) rfl
theorem m_251 : (Cond.fieldLink "HotAisle$Aisle" 24 "HotAisle$Aisle" "vessels" "[LHotAisle$Vessel;") ∈ bw := bw_in 251 (by decide +kernel) rfl
theorem m_252 : (Cond.fieldLink "HotAisle$Aisle" 33 "HotAisle$Aisle" "ladles" "[LHotAisle$Ladle;") ∈ bw := bw_in 252 (by decide +kernel) rfl
theorem m_253 : (Cond.fieldLink "HotAisle$Aisle" 42 "HotAisle$Aisle" "left" "LHotAisle$Crane;") ∈ bw := bw_in 253 (by decide +kernel) rfl
theorem m_254 : (Cond.fieldLink "HotAisle$Aisle" 46 "HotAisle$Aisle" "right" "LHotAisle$Crane;") ∈ bw := bw_in 254 (by decide +kernel) rfl
theorem m_255 : (Cond.fieldLink "HotAisle$Aisle" 52 "HotAisle$Aisle" "books" "LHotAisle$Books;") ∈ bw := bw_in 255 (by decide +kernel) rfl
theorem m_256 : (Cond.fieldLink "HotAisle" 62 "HotAisle$Aisle" "books" "LHotAisle$Books;") ∈ bw := bw_in 256 (by decide +kernel) rfl
theorem m_257 : (Cond.fieldLink "HotAisle$Aisle" 80 "HotAisle$Aisle" "wheelCopper" "I") ∈ bw := bw_in 257 (by decide +kernel) rfl
theorem m_258 : (Cond.fieldLink "HotAisle$Aisle" 56 "HotAisle$Aisle" "gasLimit" "I") ∈ bw := bw_in 258 (by decide +kernel) rfl
theorem m_259 : (Cond.fieldLink "HotAisle" 32 "HotAisle$Aisle" "gasLimit" "I") ∈ bw := bw_in 259 (by decide +kernel) rfl
theorem m_260 : (Cond.fieldLink "HotAisle" 20 "HotAisle$Aisle" "isFed" "Z") ∈ bw := bw_in 260 (by decide +kernel) rfl
theorem m_261 : (Cond.fieldLink "HotAisle$Aisle" 83 "HotAisle$Aisle" "isFed" "Z") ∈ bw := bw_in 261 (by decide +kernel) rfl
theorem m_262 : (Cond.laysFinal "HotAisle$Aisle" "HotAisle$Aisle" "furnace" "LHotAisle$Stuff;") ∈ bw := bw_in 262 (by decide +kernel) rfl
theorem m_264 : (Cond.laysFinal "HotAisle$Aisle" "HotAisle$Aisle" "vessels" "[LHotAisle$Vessel;") ∈ bw := bw_in 264 (by decide +kernel) rfl
theorem m_266 : (Cond.laysFinal "HotAisle$Aisle" "HotAisle$Aisle" "ladles" "[LHotAisle$Ladle;") ∈ bw := bw_in 266 (by decide +kernel) rfl
theorem m_268 : (Cond.laysFinal "HotAisle$Aisle" "HotAisle$Aisle" "left" "LHotAisle$Crane;") ∈ bw := bw_in 268 (by decide +kernel) rfl
theorem m_270 : (Cond.laysFinal "HotAisle$Aisle" "HotAisle$Aisle" "right" "LHotAisle$Crane;") ∈ bw := bw_in 270 (by decide +kernel) rfl
theorem m_272 : (Cond.laysFinal "HotAisle$Aisle" "HotAisle$Aisle" "books" "LHotAisle$Books;") ∈ bw := bw_in 272 (by decide +kernel) rfl
theorem m_274 : (Cond.lays "HotAisle$Aisle" "HotAisle$Aisle" "wheelCopper" "I") ∈ bw := bw_in 274 (by decide +kernel) rfl
theorem m_276 : (Cond.lays "HotAisle$Aisle" "HotAisle$Aisle" "gasLimit" "I") ∈ bw := bw_in 276 (by decide +kernel) rfl
theorem m_278 : (Cond.lays "HotAisle$Aisle" "HotAisle$Aisle" "isFed" "Z") ∈ bw := bw_in 278 (by decide +kernel) rfl
theorem m_282 : (Cond.fieldLink "HotAisle" 10 "HotAisle" "now" "LHotAisle$Aisle;") ∈ bw := bw_in 282 (by decide +kernel) rfl
theorem m_283 : (Cond.fieldLink "HotAisle" 16 "HotAisle" "kept" "[LHotAisle$Aisle;") ∈ bw := bw_in 283 (by decide +kernel) rfl
theorem m_284 : (Cond.fieldLink "HotAisle" 117 "HotAisle" "states" "I") ∈ bw := bw_in 284 (by decide +kernel) rfl
theorem m_285 : (Cond.laysFinal "HotAisle" "HotAisle" "now" "LHotAisle$Aisle;") ∈ bw := bw_in 285 (by decide +kernel) rfl
theorem m_287 : (Cond.laysFinal "HotAisle" "HotAisle" "kept" "[LHotAisle$Aisle;") ∈ bw := bw_in 287 (by decide +kernel) rfl
theorem m_289 : (Cond.lays "HotAisle" "HotAisle" "states" "I") ∈ bw := bw_in 289 (by decide +kernel) rfl
theorem m_292 : (Cond.methodLink "HotAisleLaw" 13 ⟨"HotAisle", "fed", "(Z)I"⟩) ∈ bw := bw_in 292 (by decide +kernel) rfl
theorem m_293 : (Cond.instanceMethod ⟨"HotAisle", "fed", "(Z)I"⟩) ∈ bw := bw_in 293 (by decide +kernel) rfl
theorem m_294 : (Cond.selects "HotAisle" ⟨"HotAisle", "fed", "(Z)I"⟩ ⟨"HotAisle", "fed", "(Z)I"⟩) ∈ bw := bw_in 294 (by decide +kernel) rfl
theorem m_295 : (Cond.code ⟨"HotAisle", "fed", "(Z)I"⟩ prog_1_method_2_code 3 (some FieldType.int)) ∈ bw := bw_in 295 (by decide +kernel) rfl
theorem m_296 : (Cond.methodLink "HotAisle" 24 ⟨"HotAisle", "oneIf", "(Z)I"⟩) ∈ bw := bw_in 296 (by decide +kernel) rfl
theorem m_297 : (Cond.static ⟨"HotAisle", "oneIf", "(Z)I"⟩) ∈ bw := bw_in 297 (by decide +kernel) rfl
theorem m_298 : (Cond.code ⟨"HotAisle", "oneIf", "(Z)I"⟩ prog_1_method_18_code 1 (some FieldType.int)) ∈ bw := bw_in 298 (by decide +kernel) rfl
theorem m_299 : (Cond.methodLink "HotAisleLaw" 18 ⟨"HotAisle", "limit", "(I)I"⟩) ∈ bw := bw_in 299 (by decide +kernel) rfl
theorem m_300 : (Cond.instanceMethod ⟨"HotAisle", "limit", "(I)I"⟩) ∈ bw := bw_in 300 (by decide +kernel) rfl
theorem m_301 : (Cond.selects "HotAisle" ⟨"HotAisle", "limit", "(I)I"⟩ ⟨"HotAisle", "limit", "(I)I"⟩) ∈ bw := bw_in 301 (by decide +kernel) rfl
theorem m_302 : (Cond.code ⟨"HotAisle", "limit", "(I)I"⟩ prog_1_method_3_code 3 (some FieldType.int)) ∈ bw := bw_in 302 (by decide +kernel) rfl
theorem m_303 : (Cond.methodLink "HotAisle" 28 ⟨"HotAisle", "isBetween", "(III)Z"⟩) ∈ bw := bw_in 303 (by decide +kernel) rfl
theorem m_304 : (Cond.static ⟨"HotAisle", "isBetween", "(III)Z"⟩) ∈ bw := bw_in 304 (by decide +kernel) rfl
theorem m_305 : (Cond.code ⟨"HotAisle", "isBetween", "(III)Z"⟩ prog_1_method_17_code 3 (some FieldType.boolean)) ∈ bw := bw_in 305 (by decide +kernel) rfl
theorem m_306 : (Cond.methodLink "HotAisleLaw" 23 ⟨"HotAisle", "blow", "(IZ)I"⟩) ∈ bw := bw_in 306 (by decide +kernel) rfl
theorem m_307 : (Cond.instanceMethod ⟨"HotAisle", "blow", "(IZ)I"⟩) ∈ bw := bw_in 307 (by decide +kernel) rfl
theorem m_308 : (Cond.selects "HotAisle" ⟨"HotAisle", "blow", "(IZ)I"⟩ ⟨"HotAisle", "blow", "(IZ)I"⟩) ∈ bw := bw_in 308 (by decide +kernel) rfl
theorem m_309 : (Cond.code ⟨"HotAisle", "blow", "(IZ)I"⟩ prog_1_method_4_code 5 (some FieldType.int)) ∈ bw := bw_in 309 (by decide +kernel) rfl
theorem m_310 : (Cond.methodLink "HotAisle" 36 ⟨"HotAisle$Aisle", "vesselNumbered", "(I)LHotAisle$Vessel;"⟩) ∈ bw := bw_in 310 (by decide +kernel) rfl
theorem m_311 : (Cond.instanceMethod ⟨"HotAisle$Aisle", "vesselNumbered", "(I)LHotAisle$Vessel;"⟩) ∈ bw := bw_in 311 (by decide +kernel) rfl
theorem m_312 : (Cond.selects "HotAisle$Aisle" ⟨"HotAisle$Aisle", "vesselNumbered", "(I)LHotAisle$Vessel;"⟩ ⟨"HotAisle$Aisle", "vesselNumbered", "(I)LHotAisle$Vessel;"⟩) ∈ bw := bw_in 312 (by decide +kernel) rfl
theorem m_313 : (Cond.code ⟨"HotAisle$Aisle", "vesselNumbered", "(I)LHotAisle$Vessel;"⟩ prog_2_method_3_code 2 (some (FieldType.object "HotAisle$Vessel"))) ∈ bw := bw_in 313 (by decide +kernel) rfl
theorem m_315 : (Cond.methodLink "HotAisle" 46 ⟨"HotAisle$Stuff", "all", "()I"⟩) ∈ bw := bw_in 315 (by decide +kernel) rfl
theorem m_316 : (Cond.instanceMethod ⟨"HotAisle$Stuff", "all", "()I"⟩) ∈ bw := bw_in 316 (by decide +kernel) rfl
theorem m_317 : (Cond.selects "HotAisle$Stuff" ⟨"HotAisle$Stuff", "all", "()I"⟩ ⟨"HotAisle$Stuff", "all", "()I"⟩) ∈ bw := bw_in 317 (by decide +kernel) rfl
theorem m_318 : (Cond.code ⟨"HotAisle$Stuff", "all", "()I"⟩ prog_6_method_4_code 1 (some FieldType.int)) ∈ bw := bw_in 318 (by decide +kernel) rfl
theorem m_319 : (Cond.methodLink "HotAisleLaw" 28 ⟨"HotAisle", "cold", "(II)I"⟩) ∈ bw := bw_in 319 (by decide +kernel) rfl
theorem m_320 : (Cond.instanceMethod ⟨"HotAisle", "cold", "(II)I"⟩) ∈ bw := bw_in 320 (by decide +kernel) rfl
theorem m_321 : (Cond.selects "HotAisle" ⟨"HotAisle", "cold", "(II)I"⟩ ⟨"HotAisle", "cold", "(II)I"⟩) ∈ bw := bw_in 321 (by decide +kernel) rfl
theorem m_322 : (Cond.code ⟨"HotAisle", "cold", "(II)I"⟩ prog_1_method_5_code 5 (some FieldType.int)) ∈ bw := bw_in 322 (by decide +kernel) rfl
theorem m_323 : (Cond.methodLink "HotAisle" 55 ⟨"HotAisle$Vessel", "mixHeat", "(II)V"⟩) ∈ bw := bw_in 323 (by decide +kernel) rfl
theorem m_324 : (Cond.instanceMethod ⟨"HotAisle$Vessel", "mixHeat", "(II)V"⟩) ∈ bw := bw_in 324 (by decide +kernel) rfl
theorem m_325 : (Cond.selects "HotAisle$Vessel" ⟨"HotAisle$Vessel", "mixHeat", "(II)V"⟩ ⟨"HotAisle$Vessel", "mixHeat", "(II)V"⟩) ∈ bw := bw_in 325 (by decide +kernel) rfl
theorem m_326 : (Cond.code ⟨"HotAisle$Vessel", "mixHeat", "(II)V"⟩ prog_7_method_3_code 5 (none : Option Jvm.ClassFile.FieldType)) ∈ bw := bw_in 326 (by decide +kernel) rfl
theorem m_327 : (Cond.methodLink "HotAisle$Vessel" 43 ⟨"HotAisle$Stuff", "all", "()I"⟩) ∈ bw := bw_in 327 (by decide +kernel) rfl
theorem m_328 : (Cond.methodLink "HotAisleLaw" 33 ⟨"HotAisle", "order", "(III)I"⟩) ∈ bw := bw_in 328 (by decide +kernel) rfl
theorem m_329 : (Cond.instanceMethod ⟨"HotAisle", "order", "(III)I"⟩) ∈ bw := bw_in 329 (by decide +kernel) rfl
theorem m_330 : (Cond.selects "HotAisle" ⟨"HotAisle", "order", "(III)I"⟩ ⟨"HotAisle", "order", "(III)I"⟩) ∈ bw := bw_in 330 (by decide +kernel) rfl
theorem m_331 : (Cond.code ⟨"HotAisle", "order", "(III)I"⟩ prog_1_method_6_code 5 (some FieldType.int)) ∈ bw := bw_in 331 (by decide +kernel) rfl
theorem m_332 : (Cond.methodLink "HotAisle" 74 ⟨"HotAisle$Aisle", "craneNumbered", "(I)LHotAisle$Crane;"⟩) ∈ bw := bw_in 332 (by decide +kernel) rfl
theorem m_333 : (Cond.instanceMethod ⟨"HotAisle$Aisle", "craneNumbered", "(I)LHotAisle$Crane;"⟩) ∈ bw := bw_in 333 (by decide +kernel) rfl
theorem m_334 : (Cond.selects "HotAisle$Aisle" ⟨"HotAisle$Aisle", "craneNumbered", "(I)LHotAisle$Crane;"⟩ ⟨"HotAisle$Aisle", "craneNumbered", "(I)LHotAisle$Crane;"⟩) ∈ bw := bw_in 334 (by decide +kernel) rfl
theorem m_335 : (Cond.code ⟨"HotAisle$Aisle", "craneNumbered", "(I)LHotAisle$Crane;"⟩ prog_2_method_9_code 2 (some (FieldType.object "HotAisle$Crane"))) ∈ bw := bw_in 335 (by decide +kernel) rfl
theorem m_336 : (Cond.methodLink "HotAisle" 78 ⟨"HotAisle$Crane", "addOrder", "(II)Z"⟩) ∈ bw := bw_in 336 (by decide +kernel) rfl
theorem m_337 : (Cond.instanceMethod ⟨"HotAisle$Crane", "addOrder", "(II)Z"⟩) ∈ bw := bw_in 337 (by decide +kernel) rfl
theorem m_338 : (Cond.selects "HotAisle$Crane" ⟨"HotAisle$Crane", "addOrder", "(II)Z"⟩ ⟨"HotAisle$Crane", "addOrder", "(II)Z"⟩) ∈ bw := bw_in 338 (by decide +kernel) rfl
theorem m_339 : (Cond.code ⟨"HotAisle$Crane", "addOrder", "(II)Z"⟩ prog_4_method_6_code 3 (some FieldType.boolean)) ∈ bw := bw_in 339 (by decide +kernel) rfl
theorem m_340 : (Cond.methodLink "HotAisleLaw" 38 ⟨"HotAisle", "drop", "(I)I"⟩) ∈ bw := bw_in 340 (by decide +kernel) rfl
theorem m_341 : (Cond.instanceMethod ⟨"HotAisle", "drop", "(I)I"⟩) ∈ bw := bw_in 341 (by decide +kernel) rfl
theorem m_342 : (Cond.selects "HotAisle" ⟨"HotAisle", "drop", "(I)I"⟩ ⟨"HotAisle", "drop", "(I)I"⟩) ∈ bw := bw_in 342 (by decide +kernel) rfl
theorem m_343 : (Cond.code ⟨"HotAisle", "drop", "(I)I"⟩ prog_1_method_7_code 4 (some FieldType.int)) ∈ bw := bw_in 343 (by decide +kernel) rfl
theorem m_344 : (Cond.methodLink "HotAisleLaw" 42 ⟨"HotAisle", "minutes", "(I)I"⟩) ∈ bw := bw_in 344 (by decide +kernel) rfl
theorem m_345 : (Cond.instanceMethod ⟨"HotAisle", "minutes", "(I)I"⟩) ∈ bw := bw_in 345 (by decide +kernel) rfl
theorem m_346 : (Cond.selects "HotAisle" ⟨"HotAisle", "minutes", "(I)I"⟩ ⟨"HotAisle", "minutes", "(I)I"⟩) ∈ bw := bw_in 346 (by decide +kernel) rfl
theorem m_347 : (Cond.code ⟨"HotAisle", "minutes", "(I)I"⟩ prog_1_method_8_code 4 (some FieldType.int)) ∈ bw := bw_in 347 (by decide +kernel) rfl
theorem m_348 : (Cond.methodLink "HotAisle" 90 ⟨"HotAisle$Aisle", "passMinute", "()V"⟩) ∈ bw := bw_in 348 (by decide +kernel) rfl
theorem m_349 : (Cond.instanceMethod ⟨"HotAisle$Aisle", "passMinute", "()V"⟩) ∈ bw := bw_in 349 (by decide +kernel) rfl
theorem m_350 : (Cond.selects "HotAisle$Aisle" ⟨"HotAisle$Aisle", "passMinute", "()V"⟩ ⟨"HotAisle$Aisle", "passMinute", "()V"⟩) ∈ bw := bw_in 350 (by decide +kernel) rfl
theorem m_351 : (Cond.code ⟨"HotAisle$Aisle", "passMinute", "()V"⟩ prog_2_method_15_code 1 (none : Option Jvm.ClassFile.FieldType)) ∈ bw := bw_in 351 (by decide +kernel) rfl
theorem m_352 : (Cond.methodLink "HotAisle$Aisle" 152 ⟨"HotAisle$Aisle", "feedFurnace", "()V"⟩) ∈ bw := bw_in 352 (by decide +kernel) rfl
theorem m_354 : (Cond.instanceMethod ⟨"HotAisle$Aisle", "feedFurnace", "()V"⟩) ∈ bw := bw_in 354 (by decide +kernel) rfl
theorem m_355 : (Cond.code ⟨"HotAisle$Aisle", "feedFurnace", "()V"⟩ prog_2_method_16_code 1 (none : Option Jvm.ClassFile.FieldType)) ∈ bw := bw_in 355 (by decide +kernel) rfl
theorem m_356 : (Cond.methodLink "HotAisle$Aisle" 165 ⟨"HotAisle$Stuff", "all", "()I"⟩) ∈ bw := bw_in 356 (by decide +kernel) rfl
theorem m_357 : (Cond.methodLink "HotAisle$Aisle" 172 ⟨"HotAisle$Aisle", "feed", "(II)V"⟩) ∈ bw := bw_in 357 (by decide +kernel) rfl
theorem m_359 : (Cond.instanceMethod ⟨"HotAisle$Aisle", "feed", "(II)V"⟩) ∈ bw := bw_in 359 (by decide +kernel) rfl
theorem m_360 : (Cond.code ⟨"HotAisle$Aisle", "feed", "(II)V"⟩ prog_2_method_17_code 3 (none : Option Jvm.ClassFile.FieldType)) ∈ bw := bw_in 360 (by decide +kernel) rfl
theorem m_361 : (Cond.methodLink "HotAisle$Aisle" 175 ⟨"HotAisle$Stuff", "add", "(II)V"⟩) ∈ bw := bw_in 361 (by decide +kernel) rfl
theorem m_362 : (Cond.instanceMethod ⟨"HotAisle$Stuff", "add", "(II)V"⟩) ∈ bw := bw_in 362 (by decide +kernel) rfl
theorem m_363 : (Cond.selects "HotAisle$Stuff" ⟨"HotAisle$Stuff", "add", "(II)V"⟩ ⟨"HotAisle$Stuff", "add", "(II)V"⟩) ∈ bw := bw_in 363 (by decide +kernel) rfl
theorem m_364 : (Cond.code ⟨"HotAisle$Stuff", "add", "(II)V"⟩ prog_6_method_3_code 3 (none : Option Jvm.ClassFile.FieldType)) ∈ bw := bw_in 364 (by decide +kernel) rfl
theorem m_365 : (Cond.methodLink "HotAisle$Aisle" 155 ⟨"HotAisle$Aisle", "blowVessels", "()V"⟩) ∈ bw := bw_in 365 (by decide +kernel) rfl
theorem m_367 : (Cond.instanceMethod ⟨"HotAisle$Aisle", "blowVessels", "()V"⟩) ∈ bw := bw_in 367 (by decide +kernel) rfl
theorem m_368 : (Cond.code ⟨"HotAisle$Aisle", "blowVessels", "()V"⟩ prog_2_method_18_code 5 (none : Option Jvm.ClassFile.FieldType)) ∈ bw := bw_in 368 (by decide +kernel) rfl
theorem m_369 : (Cond.methodLink "HotAisle$Aisle" 184 ⟨"HotAisle$Aisle", "blowParts", "(LHotAisle$Vessel;)V"⟩) ∈ bw := bw_in 369 (by decide +kernel) rfl
theorem m_371 : (Cond.instanceMethod ⟨"HotAisle$Aisle", "blowParts", "(LHotAisle$Vessel;)V"⟩) ∈ bw := bw_in 371 (by decide +kernel) rfl
theorem m_372 : (Cond.code ⟨"HotAisle$Aisle", "blowParts", "(LHotAisle$Vessel;)V"⟩ prog_2_method_19_code 5 (none : Option Jvm.ClassFile.FieldType)) ∈ bw := bw_in 372 (by decide +kernel) rfl
theorem m_373 : (Cond.methodLink "HotAisle$Aisle" 190 ⟨"HotAisle$Vessel", "isTooColdOrTooHot", "()Z"⟩) ∈ bw := bw_in 373 (by decide +kernel) rfl
theorem m_374 : (Cond.instanceMethod ⟨"HotAisle$Vessel", "isTooColdOrTooHot", "()Z"⟩) ∈ bw := bw_in 374 (by decide +kernel) rfl
theorem m_375 : (Cond.selects "HotAisle$Vessel" ⟨"HotAisle$Vessel", "isTooColdOrTooHot", "()Z"⟩ ⟨"HotAisle$Vessel", "isTooColdOrTooHot", "()Z"⟩) ∈ bw := bw_in 375 (by decide +kernel) rfl
theorem m_376 : (Cond.code ⟨"HotAisle$Vessel", "isTooColdOrTooHot", "()Z"⟩ prog_7_method_4_code 1 (some FieldType.boolean)) ∈ bw := bw_in 376 (by decide +kernel) rfl
theorem m_378 : (Cond.methodLink "HotAisle$Aisle" 200 ⟨"java/lang/Math", "min", "(II)I"⟩) ∈ bw := bw_in 378 (by decide +kernel) rfl
theorem m_379 : (Cond.static ⟨"java/lang/Math", "min", "(II)I"⟩) ∈ bw := bw_in 379 (by decide +kernel) rfl
theorem m_380 : (Cond.code ⟨"java/lang/Math", "min", "(II)I"⟩ prog_10_method_69_code 2 (some FieldType.int)) ∈ bw := bw_in 380 (by decide +kernel) rfl
theorem m_381 : (Cond.methodLink "HotAisle$Aisle" 218 ⟨"HotAisle$Aisle", "burn", "(LHotAisle$Vessel;II)V"⟩) ∈ bw := bw_in 381 (by decide +kernel) rfl
theorem m_383 : (Cond.instanceMethod ⟨"HotAisle$Aisle", "burn", "(LHotAisle$Vessel;II)V"⟩) ∈ bw := bw_in 383 (by decide +kernel) rfl
theorem m_384 : (Cond.code ⟨"HotAisle$Aisle", "burn", "(LHotAisle$Vessel;II)V"⟩ prog_2_method_20_code 4 (none : Option Jvm.ClassFile.FieldType)) ∈ bw := bw_in 384 (by decide +kernel) rfl
theorem m_385 : (Cond.methodLink "HotAisle$Aisle" 187 ⟨"HotAisle$Vessel", "cool", "()V"⟩) ∈ bw := bw_in 385 (by decide +kernel) rfl
theorem m_386 : (Cond.instanceMethod ⟨"HotAisle$Vessel", "cool", "()V"⟩) ∈ bw := bw_in 386 (by decide +kernel) rfl
theorem m_387 : (Cond.selects "HotAisle$Vessel" ⟨"HotAisle$Vessel", "cool", "()V"⟩ ⟨"HotAisle$Vessel", "cool", "()V"⟩) ∈ bw := bw_in 387 (by decide +kernel) rfl
theorem m_388 : (Cond.code ⟨"HotAisle$Vessel", "cool", "()V"⟩ prog_7_method_6_code 1 (none : Option Jvm.ClassFile.FieldType)) ∈ bw := bw_in 388 (by decide +kernel) rfl
theorem m_389 : (Cond.methodLink "HotAisle$Vessel" 54 ⟨"java/lang/Math", "max", "(II)I"⟩) ∈ bw := bw_in 389 (by decide +kernel) rfl
theorem m_390 : (Cond.static ⟨"java/lang/Math", "max", "(II)I"⟩) ∈ bw := bw_in 390 (by decide +kernel) rfl
theorem m_391 : (Cond.code ⟨"java/lang/Math", "max", "(II)I"⟩ prog_10_method_65_code 2 (some FieldType.int)) ∈ bw := bw_in 391 (by decide +kernel) rfl
theorem m_392 : (Cond.methodLink "HotAisle$Aisle" 158 ⟨"HotAisle$Aisle", "castAnode", "()V"⟩) ∈ bw := bw_in 392 (by decide +kernel) rfl
theorem m_394 : (Cond.instanceMethod ⟨"HotAisle$Aisle", "castAnode", "()V"⟩) ∈ bw := bw_in 394 (by decide +kernel) rfl
theorem m_395 : (Cond.code ⟨"HotAisle$Aisle", "castAnode", "()V"⟩ prog_2_method_21_code 1 (none : Option Jvm.ClassFile.FieldType)) ∈ bw := bw_in 395 (by decide +kernel) rfl
theorem m_396 : (Cond.methodLink "HotAisle$Aisle" 161 ⟨"HotAisle$Aisle", "work", "(LHotAisle$Crane;LHotAisle$Crane;)V"⟩) ∈ bw := bw_in 396 (by decide +kernel) rfl
theorem m_398 : (Cond.instanceMethod ⟨"HotAisle$Aisle", "work", "(LHotAisle$Crane;LHotAisle$Crane;)V"⟩) ∈ bw := bw_in 398 (by decide +kernel) rfl
theorem m_399 : (Cond.code ⟨"HotAisle$Aisle", "work", "(LHotAisle$Crane;LHotAisle$Crane;)V"⟩ prog_2_method_22_code 4 (none : Option Jvm.ClassFile.FieldType)) ∈ bw := bw_in 399 (by decide +kernel) rfl
theorem m_400 : (Cond.methodLink "HotAisle$Aisle" 228 ⟨"HotAisle$Crane", "goesWhereItIs", "()Z"⟩) ∈ bw := bw_in 400 (by decide +kernel) rfl
theorem m_401 : (Cond.instanceMethod ⟨"HotAisle$Crane", "goesWhereItIs", "()Z"⟩) ∈ bw := bw_in 401 (by decide +kernel) rfl
theorem m_402 : (Cond.selects "HotAisle$Crane" ⟨"HotAisle$Crane", "goesWhereItIs", "()Z"⟩ ⟨"HotAisle$Crane", "goesWhereItIs", "()Z"⟩) ∈ bw := bw_in 402 (by decide +kernel) rfl
theorem m_403 : (Cond.code ⟨"HotAisle$Crane", "goesWhereItIs", "()Z"⟩ prog_4_method_4_code 1 (some FieldType.boolean)) ∈ bw := bw_in 403 (by decide +kernel) rfl
theorem m_404 : (Cond.methodLink "HotAisle$Crane" 28 ⟨"HotAisle$Crane", "firstWhat", "()I"⟩) ∈ bw := bw_in 404 (by decide +kernel) rfl
theorem m_405 : (Cond.instanceMethod ⟨"HotAisle$Crane", "firstWhat", "()I"⟩) ∈ bw := bw_in 405 (by decide +kernel) rfl
theorem m_406 : (Cond.selects "HotAisle$Crane" ⟨"HotAisle$Crane", "firstWhat", "()I"⟩ ⟨"HotAisle$Crane", "firstWhat", "()I"⟩) ∈ bw := bw_in 406 (by decide +kernel) rfl
theorem m_407 : (Cond.code ⟨"HotAisle$Crane", "firstWhat", "()I"⟩ prog_4_method_3_code 1 (some FieldType.int)) ∈ bw := bw_in 407 (by decide +kernel) rfl
theorem m_408 : (Cond.methodLink "HotAisle$Aisle" 231 ⟨"HotAisle$Aisle", "finishFirst", "(LHotAisle$Crane;)V"⟩) ∈ bw := bw_in 408 (by decide +kernel) rfl
theorem m_410 : (Cond.instanceMethod ⟨"HotAisle$Aisle", "finishFirst", "(LHotAisle$Crane;)V"⟩) ∈ bw := bw_in 410 (by decide +kernel) rfl
theorem m_411 : (Cond.code ⟨"HotAisle$Aisle", "finishFirst", "(LHotAisle$Crane;)V"⟩ prog_2_method_23_code 2 (none : Option Jvm.ClassFile.FieldType)) ∈ bw := bw_in 411 (by decide +kernel) rfl
theorem m_412 : (Cond.methodLink "HotAisle$Aisle" 247 ⟨"HotAisle$Crane", "removeFirst", "()V"⟩) ∈ bw := bw_in 412 (by decide +kernel) rfl
theorem m_413 : (Cond.instanceMethod ⟨"HotAisle$Crane", "removeFirst", "()V"⟩) ∈ bw := bw_in 413 (by decide +kernel) rfl
theorem m_414 : (Cond.selects "HotAisle$Crane" ⟨"HotAisle$Crane", "removeFirst", "()V"⟩ ⟨"HotAisle$Crane", "removeFirst", "()V"⟩) ∈ bw := bw_in 414 (by decide +kernel) rfl
theorem m_415 : (Cond.code ⟨"HotAisle$Crane", "removeFirst", "()V"⟩ prog_4_method_7_code 2 (none : Option Jvm.ClassFile.FieldType)) ∈ bw := bw_in 415 (by decide +kernel) rfl
theorem m_416 : (Cond.methodLink "HotAisle$Crane" 35 ⟨"java/lang/Math", "max", "(II)I"⟩) ∈ bw := bw_in 416 (by decide +kernel) rfl
theorem m_417 : (Cond.methodLink "HotAisle$Aisle" 234 ⟨"HotAisle$Crane", "firstWhat", "()I"⟩) ∈ bw := bw_in 417 (by decide +kernel) rfl
theorem m_418 : (Cond.methodLink "HotAisle$Aisle" 237 ⟨"HotAisle$Aisle", "stepOrWait", "(LHotAisle$Crane;LHotAisle$Crane;)V"⟩) ∈ bw := bw_in 418 (by decide +kernel) rfl
theorem m_420 : (Cond.instanceMethod ⟨"HotAisle$Aisle", "stepOrWait", "(LHotAisle$Crane;LHotAisle$Crane;)V"⟩) ∈ bw := bw_in 420 (by decide +kernel) rfl
theorem m_421 : (Cond.code ⟨"HotAisle$Aisle", "stepOrWait", "(LHotAisle$Crane;LHotAisle$Crane;)V"⟩ prog_2_method_24_code 5 (none : Option Jvm.ClassFile.FieldType)) ∈ bw := bw_in 421 (by decide +kernel) rfl
theorem m_422 : (Cond.methodLink "HotAisle$Aisle" 253 ⟨"HotAisle$Crane", "nextPlace", "()I"⟩) ∈ bw := bw_in 422 (by decide +kernel) rfl
theorem m_423 : (Cond.instanceMethod ⟨"HotAisle$Crane", "nextPlace", "()I"⟩) ∈ bw := bw_in 423 (by decide +kernel) rfl
theorem m_424 : (Cond.selects "HotAisle$Crane" ⟨"HotAisle$Crane", "nextPlace", "()I"⟩ ⟨"HotAisle$Crane", "nextPlace", "()I"⟩) ∈ bw := bw_in 424 (by decide +kernel) rfl
theorem m_425 : (Cond.code ⟨"HotAisle$Crane", "nextPlace", "()I"⟩ prog_4_method_5_code 1 (some FieldType.int)) ∈ bw := bw_in 425 (by decide +kernel) rfl
theorem m_426 : (Cond.methodLink "HotAisle$Aisle" 257 ⟨"HotAisle$Aisle", "numberOfLadleOn", "(LHotAisle$Crane;)I"⟩) ∈ bw := bw_in 426 (by decide +kernel) rfl
theorem m_427 : (Cond.instanceMethod ⟨"HotAisle$Aisle", "numberOfLadleOn", "(LHotAisle$Crane;)I"⟩) ∈ bw := bw_in 427 (by decide +kernel) rfl
theorem m_428 : (Cond.selects "HotAisle$Aisle" ⟨"HotAisle$Aisle", "numberOfLadleOn", "(LHotAisle$Crane;)I"⟩ ⟨"HotAisle$Aisle", "numberOfLadleOn", "(LHotAisle$Crane;)I"⟩) ∈ bw := bw_in 428 (by decide +kernel) rfl
theorem m_429 : (Cond.code ⟨"HotAisle$Aisle", "numberOfLadleOn", "(LHotAisle$Crane;)I"⟩ prog_2_method_7_code 3 (some FieldType.int)) ∈ bw := bw_in 429 (by decide +kernel) rfl
theorem m_430 : (Cond.methodLink "HotAisle$Aisle" 261 ⟨"HotAisle$Aisle", "ladleNumbered", "(I)LHotAisle$Ladle;"⟩) ∈ bw := bw_in 430 (by decide +kernel) rfl
theorem m_431 : (Cond.instanceMethod ⟨"HotAisle$Aisle", "ladleNumbered", "(I)LHotAisle$Ladle;"⟩) ∈ bw := bw_in 431 (by decide +kernel) rfl
theorem m_432 : (Cond.selects "HotAisle$Aisle" ⟨"HotAisle$Aisle", "ladleNumbered", "(I)LHotAisle$Ladle;"⟩ ⟨"HotAisle$Aisle", "ladleNumbered", "(I)LHotAisle$Ladle;"⟩) ∈ bw := bw_in 432 (by decide +kernel) rfl
theorem m_433 : (Cond.code ⟨"HotAisle$Aisle", "ladleNumbered", "(I)LHotAisle$Ladle;"⟩ prog_2_method_6_code 2 (some (FieldType.object "HotAisle$Ladle"))) ∈ bw := bw_in 433 (by decide +kernel) rfl
theorem m_434 : (Cond.methodLink "HotAisle$Aisle" 240 ⟨"HotAisle$Aisle", "isCarriedOut", "(LHotAisle$Crane;)Z"⟩) ∈ bw := bw_in 434 (by decide +kernel) rfl
theorem m_436 : (Cond.instanceMethod ⟨"HotAisle$Aisle", "isCarriedOut", "(LHotAisle$Crane;)Z"⟩) ∈ bw := bw_in 436 (by decide +kernel) rfl
theorem m_437 : (Cond.code ⟨"HotAisle$Aisle", "isCarriedOut", "(LHotAisle$Crane;)Z"⟩ prog_2_method_25_code 4 (some FieldType.boolean)) ∈ bw := bw_in 437 (by decide +kernel) rfl
theorem m_438 : (Cond.methodLink "HotAisle$Aisle" 265 ⟨"HotAisle$Aisle", "take", "(LHotAisle$Crane;)Z"⟩) ∈ bw := bw_in 438 (by decide +kernel) rfl
theorem m_440 : (Cond.instanceMethod ⟨"HotAisle$Aisle", "take", "(LHotAisle$Crane;)Z"⟩) ∈ bw := bw_in 440 (by decide +kernel) rfl
theorem m_441 : (Cond.code ⟨"HotAisle$Aisle", "take", "(LHotAisle$Crane;)Z"⟩ prog_2_method_26_code 3 (some FieldType.boolean)) ∈ bw := bw_in 441 (by decide +kernel) rfl
theorem m_442 : (Cond.methodLink "HotAisle$Aisle" 288 ⟨"HotAisle$Aisle", "ladleStandingAt", "(I)LHotAisle$Ladle;"⟩) ∈ bw := bw_in 442 (by decide +kernel) rfl
theorem m_443 : (Cond.instanceMethod ⟨"HotAisle$Aisle", "ladleStandingAt", "(I)LHotAisle$Ladle;"⟩) ∈ bw := bw_in 443 (by decide +kernel) rfl
theorem m_444 : (Cond.selects "HotAisle$Aisle" ⟨"HotAisle$Aisle", "ladleStandingAt", "(I)LHotAisle$Ladle;"⟩ ⟨"HotAisle$Aisle", "ladleStandingAt", "(I)LHotAisle$Ladle;"⟩) ∈ bw := bw_in 444 (by decide +kernel) rfl
theorem m_445 : (Cond.code ⟨"HotAisle$Aisle", "ladleStandingAt", "(I)LHotAisle$Ladle;"⟩ prog_2_method_8_code 6 (some (FieldType.object "HotAisle$Ladle"))) ∈ bw := bw_in 445 (by decide +kernel) rfl
theorem m_446 : (Cond.methodLink "HotAisle$Aisle" 94 ⟨"HotAisle$Aisle", "vesselAt", "(I)LHotAisle$Vessel;"⟩) ∈ bw := bw_in 446 (by decide +kernel) rfl
theorem m_447 : (Cond.instanceMethod ⟨"HotAisle$Aisle", "vesselAt", "(I)LHotAisle$Vessel;"⟩) ∈ bw := bw_in 447 (by decide +kernel) rfl
theorem m_448 : (Cond.selects "HotAisle$Aisle" ⟨"HotAisle$Aisle", "vesselAt", "(I)LHotAisle$Vessel;"⟩ ⟨"HotAisle$Aisle", "vesselAt", "(I)LHotAisle$Vessel;"⟩) ∈ bw := bw_in 448 (by decide +kernel) rfl
theorem m_449 : (Cond.code ⟨"HotAisle$Aisle", "vesselAt", "(I)LHotAisle$Vessel;"⟩ prog_2_method_4_code 6 (some (FieldType.object "HotAisle$Vessel"))) ∈ bw := bw_in 449 (by decide +kernel) rfl
theorem m_450 : (Cond.methodLink "HotAisle$Aisle" 268 ⟨"HotAisle$Aisle", "set", "(LHotAisle$Ladle;)Z"⟩) ∈ bw := bw_in 450 (by decide +kernel) rfl
theorem m_452 : (Cond.instanceMethod ⟨"HotAisle$Aisle", "set", "(LHotAisle$Ladle;)Z"⟩) ∈ bw := bw_in 452 (by decide +kernel) rfl
theorem m_453 : (Cond.code ⟨"HotAisle$Aisle", "set", "(LHotAisle$Ladle;)Z"⟩ prog_2_method_27_code 2 (some FieldType.boolean)) ∈ bw := bw_in 453 (by decide +kernel) rfl
theorem m_454 : (Cond.methodLink "HotAisle$Aisle" 291 ⟨"HotAisle$Aisle", "isFloor", "(I)Z"⟩) ∈ bw := bw_in 454 (by decide +kernel) rfl
theorem m_455 : (Cond.instanceMethod ⟨"HotAisle$Aisle", "isFloor", "(I)Z"⟩) ∈ bw := bw_in 455 (by decide +kernel) rfl
theorem m_456 : (Cond.selects "HotAisle$Aisle" ⟨"HotAisle$Aisle", "isFloor", "(I)Z"⟩ ⟨"HotAisle$Aisle", "isFloor", "(I)Z"⟩) ∈ bw := bw_in 456 (by decide +kernel) rfl
theorem m_457 : (Cond.code ⟨"HotAisle$Aisle", "isFloor", "(I)Z"⟩ prog_2_method_5_code 2 (some FieldType.boolean)) ∈ bw := bw_in 457 (by decide +kernel) rfl
theorem m_458 : (Cond.methodLink "HotAisle$Aisle" 272 ⟨"HotAisle$Aisle", "tap", "(LHotAisle$Ladle;)Z"⟩) ∈ bw := bw_in 458 (by decide +kernel) rfl
theorem m_460 : (Cond.instanceMethod ⟨"HotAisle$Aisle", "tap", "(LHotAisle$Ladle;)Z"⟩) ∈ bw := bw_in 460 (by decide +kernel) rfl
theorem m_461 : (Cond.code ⟨"HotAisle$Aisle", "tap", "(LHotAisle$Ladle;)Z"⟩ prog_2_method_28_code 8 (some FieldType.boolean)) ∈ bw := bw_in 461 (by decide +kernel) rfl
theorem m_462 : (Cond.methodLink "HotAisle$Aisle" 295 ⟨"HotAisle$Ladle", "room", "()I"⟩) ∈ bw := bw_in 462 (by decide +kernel) rfl
theorem m_463 : (Cond.instanceMethod ⟨"HotAisle$Ladle", "room", "()I"⟩) ∈ bw := bw_in 463 (by decide +kernel) rfl
theorem m_464 : (Cond.selects "HotAisle$Ladle" ⟨"HotAisle$Ladle", "room", "()I"⟩ ⟨"HotAisle$Ladle", "room", "()I"⟩) ∈ bw := bw_in 464 (by decide +kernel) rfl
theorem m_465 : (Cond.code ⟨"HotAisle$Ladle", "room", "()I"⟩ prog_5_method_3_code 1 (some FieldType.int)) ∈ bw := bw_in 465 (by decide +kernel) rfl
theorem m_466 : (Cond.methodLink "HotAisle$Ladle" 35 ⟨"HotAisle$Stuff", "all", "()I"⟩) ∈ bw := bw_in 466 (by decide +kernel) rfl
theorem m_467 : (Cond.methodLink "HotAisle$Aisle" 301 ⟨"HotAisle$Aisle", "tapStuff", "(LHotAisle$Ladle;II)V"⟩) ∈ bw := bw_in 467 (by decide +kernel) rfl
theorem m_469 : (Cond.instanceMethod ⟨"HotAisle$Aisle", "tapStuff", "(LHotAisle$Ladle;II)V"⟩) ∈ bw := bw_in 469 (by decide +kernel) rfl
theorem m_470 : (Cond.code ⟨"HotAisle$Aisle", "tapStuff", "(LHotAisle$Ladle;II)V"⟩ prog_2_method_29_code 4 (none : Option Jvm.ClassFile.FieldType)) ∈ bw := bw_in 470 (by decide +kernel) rfl
theorem m_471 : (Cond.methodLink "HotAisle$Aisle" 275 ⟨"HotAisle$Aisle", "pour", "(LHotAisle$Ladle;LHotAisle$Vessel;)Z"⟩) ∈ bw := bw_in 471 (by decide +kernel) rfl
theorem m_473 : (Cond.instanceMethod ⟨"HotAisle$Aisle", "pour", "(LHotAisle$Ladle;LHotAisle$Vessel;)Z"⟩) ∈ bw := bw_in 473 (by decide +kernel) rfl
theorem m_474 : (Cond.code ⟨"HotAisle$Aisle", "pour", "(LHotAisle$Ladle;LHotAisle$Vessel;)Z"⟩ prog_2_method_30_code 5 (some FieldType.boolean)) ∈ bw := bw_in 474 (by decide +kernel) rfl
theorem m_475 : (Cond.methodLink "HotAisle$Aisle" 305 ⟨"HotAisle$Ladle", "stuffThatFreezes", "()I"⟩) ∈ bw := bw_in 475 (by decide +kernel) rfl
theorem m_476 : (Cond.instanceMethod ⟨"HotAisle$Ladle", "stuffThatFreezes", "()I"⟩) ∈ bw := bw_in 476 (by decide +kernel) rfl
theorem m_477 : (Cond.selects "HotAisle$Ladle" ⟨"HotAisle$Ladle", "stuffThatFreezes", "()I"⟩ ⟨"HotAisle$Ladle", "stuffThatFreezes", "()I"⟩) ∈ bw := bw_in 477 (by decide +kernel) rfl
theorem m_478 : (Cond.code ⟨"HotAisle$Ladle", "stuffThatFreezes", "()I"⟩ prog_5_method_4_code 1 (some FieldType.int)) ∈ bw := bw_in 478 (by decide +kernel) rfl
theorem m_479 : (Cond.methodLink "HotAisle$Ladle" 39 ⟨"java/lang/Math", "min", "(II)I"⟩) ∈ bw := bw_in 479 (by decide +kernel) rfl
theorem m_480 : (Cond.methodLink "HotAisle$Aisle" 308 ⟨"HotAisle$Aisle", "canPour", "(LHotAisle$Ladle;LHotAisle$Vessel;I)Z"⟩) ∈ bw := bw_in 480 (by decide +kernel) rfl
theorem m_481 : (Cond.static ⟨"HotAisle$Aisle", "canPour", "(LHotAisle$Ladle;LHotAisle$Vessel;I)Z"⟩) ∈ bw := bw_in 481 (by decide +kernel) rfl
theorem m_482 : (Cond.code ⟨"HotAisle$Aisle", "canPour", "(LHotAisle$Ladle;LHotAisle$Vessel;I)Z"⟩ prog_2_method_31_code 3 (some FieldType.boolean)) ∈ bw := bw_in 482 (by decide +kernel) rfl
theorem m_483 : (Cond.methodLink "HotAisle$Aisle" 312 ⟨"HotAisle$Ladle", "freeze", "(I)V"⟩) ∈ bw := bw_in 483 (by decide +kernel) rfl
theorem m_484 : (Cond.instanceMethod ⟨"HotAisle$Ladle", "freeze", "(I)V"⟩) ∈ bw := bw_in 484 (by decide +kernel) rfl
theorem m_485 : (Cond.selects "HotAisle$Ladle" ⟨"HotAisle$Ladle", "freeze", "(I)V"⟩ ⟨"HotAisle$Ladle", "freeze", "(I)V"⟩) ∈ bw := bw_in 485 (by decide +kernel) rfl
theorem m_486 : (Cond.code ⟨"HotAisle$Ladle", "freeze", "(I)V"⟩ prog_5_method_5_code 5 (none : Option Jvm.ClassFile.FieldType)) ∈ bw := bw_in 486 (by decide +kernel) rfl
theorem m_487 : (Cond.methodLink "HotAisle$Ladle" 31 ⟨"HotAisle$Stuff", "of", "(I)I"⟩) ∈ bw := bw_in 487 (by decide +kernel) rfl
theorem m_488 : (Cond.instanceMethod ⟨"HotAisle$Stuff", "of", "(I)I"⟩) ∈ bw := bw_in 488 (by decide +kernel) rfl
theorem m_489 : (Cond.selects "HotAisle$Stuff" ⟨"HotAisle$Stuff", "of", "(I)I"⟩ ⟨"HotAisle$Stuff", "of", "(I)I"⟩) ∈ bw := bw_in 489 (by decide +kernel) rfl
theorem m_490 : (Cond.code ⟨"HotAisle$Stuff", "of", "(I)I"⟩ prog_6_method_2_code 2 (some FieldType.int)) ∈ bw := bw_in 490 (by decide +kernel) rfl
theorem m_491 : (Cond.methodLink "HotAisle$Ladle" 45 ⟨"HotAisle$Stuff", "add", "(II)V"⟩) ∈ bw := bw_in 491 (by decide +kernel) rfl
theorem m_492 : (Cond.methodLink "HotAisle$Aisle" 315 ⟨"HotAisle$Vessel", "mixHeat", "(II)V"⟩) ∈ bw := bw_in 492 (by decide +kernel) rfl
theorem m_493 : (Cond.methodLink "HotAisle$Aisle" 318 ⟨"HotAisle$Stuff", "addAll", "(LHotAisle$Stuff;)V"⟩) ∈ bw := bw_in 493 (by decide +kernel) rfl
theorem m_494 : (Cond.instanceMethod ⟨"HotAisle$Stuff", "addAll", "(LHotAisle$Stuff;)V"⟩) ∈ bw := bw_in 494 (by decide +kernel) rfl
theorem m_495 : (Cond.selects "HotAisle$Stuff" ⟨"HotAisle$Stuff", "addAll", "(LHotAisle$Stuff;)V"⟩ ⟨"HotAisle$Stuff", "addAll", "(LHotAisle$Stuff;)V"⟩) ∈ bw := bw_in 495 (by decide +kernel) rfl
theorem m_496 : (Cond.code ⟨"HotAisle$Stuff", "addAll", "(LHotAisle$Stuff;)V"⟩ prog_6_method_5_code 2 (none : Option Jvm.ClassFile.FieldType)) ∈ bw := bw_in 496 (by decide +kernel) rfl
theorem m_497 : (Cond.methodLink "HotAisle$Aisle" 321 ⟨"HotAisle$Ladle", "empty", "()V"⟩) ∈ bw := bw_in 497 (by decide +kernel) rfl
theorem m_498 : (Cond.instanceMethod ⟨"HotAisle$Ladle", "empty", "()V"⟩) ∈ bw := bw_in 498 (by decide +kernel) rfl
theorem m_499 : (Cond.selects "HotAisle$Ladle" ⟨"HotAisle$Ladle", "empty", "()V"⟩ ⟨"HotAisle$Ladle", "empty", "()V"⟩) ∈ bw := bw_in 499 (by decide +kernel) rfl
theorem m_500 : (Cond.code ⟨"HotAisle$Ladle", "empty", "()V"⟩ prog_5_method_6_code 1 (none : Option Jvm.ClassFile.FieldType)) ∈ bw := bw_in 500 (by decide +kernel) rfl
theorem m_501 : (Cond.methodLink "HotAisle$Ladle" 49 ⟨"HotAisle$Stuff", "clear", "()V"⟩) ∈ bw := bw_in 501 (by decide +kernel) rfl
theorem m_502 : (Cond.instanceMethod ⟨"HotAisle$Stuff", "clear", "()V"⟩) ∈ bw := bw_in 502 (by decide +kernel) rfl
theorem m_503 : (Cond.selects "HotAisle$Stuff" ⟨"HotAisle$Stuff", "clear", "()V"⟩ ⟨"HotAisle$Stuff", "clear", "()V"⟩) ∈ bw := bw_in 503 (by decide +kernel) rfl
theorem m_504 : (Cond.code ⟨"HotAisle$Stuff", "clear", "()V"⟩ prog_6_method_6_code 1 (none : Option Jvm.ClassFile.FieldType)) ∈ bw := bw_in 504 (by decide +kernel) rfl
theorem m_505 : (Cond.methodLink "HotAisle$Aisle" 279 ⟨"HotAisle$Aisle", "skim", "(LHotAisle$Ladle;LHotAisle$Vessel;)Z"⟩) ∈ bw := bw_in 505 (by decide +kernel) rfl
theorem m_506 : (Cond.static ⟨"HotAisle$Aisle", "skim", "(LHotAisle$Ladle;LHotAisle$Vessel;)Z"⟩) ∈ bw := bw_in 506 (by decide +kernel) rfl
theorem m_507 : (Cond.code ⟨"HotAisle$Aisle", "skim", "(LHotAisle$Ladle;LHotAisle$Vessel;)Z"⟩ prog_2_method_32_code 4 (some FieldType.boolean)) ∈ bw := bw_in 507 (by decide +kernel) rfl
theorem m_508 : (Cond.methodLink "HotAisle$Aisle" 282 ⟨"HotAisle$Aisle", "draw", "(LHotAisle$Ladle;LHotAisle$Vessel;)Z"⟩) ∈ bw := bw_in 508 (by decide +kernel) rfl
theorem m_509 : (Cond.static ⟨"HotAisle$Aisle", "draw", "(LHotAisle$Ladle;LHotAisle$Vessel;)Z"⟩) ∈ bw := bw_in 509 (by decide +kernel) rfl
theorem m_510 : (Cond.code ⟨"HotAisle$Aisle", "draw", "(LHotAisle$Ladle;LHotAisle$Vessel;)Z"⟩ prog_2_method_33_code 3 (some FieldType.boolean)) ∈ bw := bw_in 510 (by decide +kernel) rfl
theorem m_511 : (Cond.methodLink "HotAisle$Aisle" 324 ⟨"HotAisle$Vessel", "holdsCopperAlone", "()Z"⟩) ∈ bw := bw_in 511 (by decide +kernel) rfl
theorem m_512 : (Cond.instanceMethod ⟨"HotAisle$Vessel", "holdsCopperAlone", "()Z"⟩) ∈ bw := bw_in 512 (by decide +kernel) rfl
theorem m_513 : (Cond.selects "HotAisle$Vessel" ⟨"HotAisle$Vessel", "holdsCopperAlone", "()Z"⟩ ⟨"HotAisle$Vessel", "holdsCopperAlone", "()Z"⟩) ∈ bw := bw_in 513 (by decide +kernel) rfl
theorem m_514 : (Cond.code ⟨"HotAisle$Vessel", "holdsCopperAlone", "()Z"⟩ prog_7_method_5_code 1 (some FieldType.boolean)) ∈ bw := bw_in 514 (by decide +kernel) rfl
theorem m_515 : (Cond.methodLink "HotAisle$Aisle" 285 ⟨"HotAisle$Aisle", "clean", "(LHotAisle$Ladle;)Z"⟩) ∈ bw := bw_in 515 (by decide +kernel) rfl
theorem m_517 : (Cond.instanceMethod ⟨"HotAisle$Aisle", "clean", "(LHotAisle$Ladle;)Z"⟩) ∈ bw := bw_in 517 (by decide +kernel) rfl
theorem m_518 : (Cond.code ⟨"HotAisle$Aisle", "clean", "(LHotAisle$Ladle;)Z"⟩ prog_2_method_34_code 3 (some FieldType.boolean)) ∈ bw := bw_in 518 (by decide +kernel) rfl
theorem m_519 : (Cond.methodLink "HotAisle$Aisle" 327 ⟨"HotAisle$Stuff", "clear", "()V"⟩) ∈ bw := bw_in 519 (by decide +kernel) rfl
theorem m_520 : (Cond.methodLink "HotAisleLaw" 46 ⟨"HotAisle", "until", "(I)I"⟩) ∈ bw := bw_in 520 (by decide +kernel) rfl
theorem m_521 : (Cond.instanceMethod ⟨"HotAisle", "until", "(I)I"⟩) ∈ bw := bw_in 521 (by decide +kernel) rfl
theorem m_522 : (Cond.selects "HotAisle" ⟨"HotAisle", "until", "(I)I"⟩ ⟨"HotAisle", "until", "(I)I"⟩) ∈ bw := bw_in 522 (by decide +kernel) rfl
theorem m_523 : (Cond.code ⟨"HotAisle", "until", "(I)I"⟩ prog_1_method_9_code 3 (some FieldType.int)) ∈ bw := bw_in 523 (by decide +kernel) rfl
theorem m_524 : (Cond.methodLink "HotAisle" 93 ⟨"HotAisle$Aisle", "hasOrders", "()Z"⟩) ∈ bw := bw_in 524 (by decide +kernel) rfl
theorem m_525 : (Cond.instanceMethod ⟨"HotAisle$Aisle", "hasOrders", "()Z"⟩) ∈ bw := bw_in 525 (by decide +kernel) rfl
theorem m_526 : (Cond.selects "HotAisle$Aisle" ⟨"HotAisle$Aisle", "hasOrders", "()Z"⟩ ⟨"HotAisle$Aisle", "hasOrders", "()Z"⟩) ∈ bw := bw_in 526 (by decide +kernel) rfl
theorem m_527 : (Cond.code ⟨"HotAisle$Aisle", "hasOrders", "()Z"⟩ prog_2_method_10_code 1 (some FieldType.boolean)) ∈ bw := bw_in 527 (by decide +kernel) rfl
theorem m_528 : (Cond.methodLink "HotAisleLaw" 50 ⟨"HotAisle", "crane", "(II)I"⟩) ∈ bw := bw_in 528 (by decide +kernel) rfl
theorem m_529 : (Cond.instanceMethod ⟨"HotAisle", "crane", "(II)I"⟩) ∈ bw := bw_in 529 (by decide +kernel) rfl
theorem m_530 : (Cond.selects "HotAisle" ⟨"HotAisle", "crane", "(II)I"⟩ ⟨"HotAisle", "crane", "(II)I"⟩) ∈ bw := bw_in 530 (by decide +kernel) rfl
theorem m_531 : (Cond.code ⟨"HotAisle", "crane", "(II)I"⟩ prog_1_method_10_code 4 (some FieldType.int)) ∈ bw := bw_in 531 (by decide +kernel) rfl
theorem m_532 : (Cond.methodLink "HotAisle" 97 ⟨"HotAisle$Aisle", "numberOfLadleOn", "(LHotAisle$Crane;)I"⟩) ∈ bw := bw_in 532 (by decide +kernel) rfl
theorem m_533 : (Cond.methodLink "HotAisle" 101 ⟨"HotAisle$Crane", "answer", "(I)I"⟩) ∈ bw := bw_in 533 (by decide +kernel) rfl
theorem m_534 : (Cond.instanceMethod ⟨"HotAisle$Crane", "answer", "(I)I"⟩) ∈ bw := bw_in 534 (by decide +kernel) rfl
theorem m_535 : (Cond.selects "HotAisle$Crane" ⟨"HotAisle$Crane", "answer", "(I)I"⟩ ⟨"HotAisle$Crane", "answer", "(I)I"⟩) ∈ bw := bw_in 535 (by decide +kernel) rfl
theorem m_536 : (Cond.code ⟨"HotAisle$Crane", "answer", "(I)I"⟩ prog_4_method_2_code 2 (some FieldType.int)) ∈ bw := bw_in 536 (by decide +kernel) rfl
theorem m_537 : (Cond.methodLink "HotAisleLaw" 54 ⟨"HotAisle", "ladle", "(II)I"⟩) ∈ bw := bw_in 537 (by decide +kernel) rfl
theorem m_538 : (Cond.instanceMethod ⟨"HotAisle", "ladle", "(II)I"⟩) ∈ bw := bw_in 538 (by decide +kernel) rfl
theorem m_539 : (Cond.selects "HotAisle" ⟨"HotAisle", "ladle", "(II)I"⟩ ⟨"HotAisle", "ladle", "(II)I"⟩) ∈ bw := bw_in 539 (by decide +kernel) rfl
theorem m_540 : (Cond.code ⟨"HotAisle", "ladle", "(II)I"⟩ prog_1_method_11_code 4 (some FieldType.int)) ∈ bw := bw_in 540 (by decide +kernel) rfl
theorem m_541 : (Cond.methodLink "HotAisle" 105 ⟨"HotAisle$Aisle", "ladleNumbered", "(I)LHotAisle$Ladle;"⟩) ∈ bw := bw_in 541 (by decide +kernel) rfl
theorem m_542 : (Cond.methodLink "HotAisle" 109 ⟨"HotAisle$Ladle", "answer", "(I)I"⟩) ∈ bw := bw_in 542 (by decide +kernel) rfl
theorem m_543 : (Cond.instanceMethod ⟨"HotAisle$Ladle", "answer", "(I)I"⟩) ∈ bw := bw_in 543 (by decide +kernel) rfl
theorem m_544 : (Cond.selects "HotAisle$Ladle" ⟨"HotAisle$Ladle", "answer", "(I)I"⟩ ⟨"HotAisle$Ladle", "answer", "(I)I"⟩) ∈ bw := bw_in 544 (by decide +kernel) rfl
theorem m_545 : (Cond.code ⟨"HotAisle$Ladle", "answer", "(I)I"⟩ prog_5_method_2_code 2 (some FieldType.int)) ∈ bw := bw_in 545 (by decide +kernel) rfl
theorem m_546 : (Cond.methodLink "HotAisleLaw" 58 ⟨"HotAisle", "vessel", "(II)I"⟩) ∈ bw := bw_in 546 (by decide +kernel) rfl
theorem m_547 : (Cond.instanceMethod ⟨"HotAisle", "vessel", "(II)I"⟩) ∈ bw := bw_in 547 (by decide +kernel) rfl
theorem m_548 : (Cond.selects "HotAisle" ⟨"HotAisle", "vessel", "(II)I"⟩ ⟨"HotAisle", "vessel", "(II)I"⟩) ∈ bw := bw_in 548 (by decide +kernel) rfl
theorem m_549 : (Cond.code ⟨"HotAisle", "vessel", "(II)I"⟩ prog_1_method_12_code 4 (some FieldType.int)) ∈ bw := bw_in 549 (by decide +kernel) rfl
theorem m_550 : (Cond.methodLink "HotAisle" 112 ⟨"HotAisle$Vessel", "answer", "(I)I"⟩) ∈ bw := bw_in 550 (by decide +kernel) rfl
theorem m_551 : (Cond.instanceMethod ⟨"HotAisle$Vessel", "answer", "(I)I"⟩) ∈ bw := bw_in 551 (by decide +kernel) rfl
theorem m_552 : (Cond.selects "HotAisle$Vessel" ⟨"HotAisle$Vessel", "answer", "(I)I"⟩ ⟨"HotAisle$Vessel", "answer", "(I)I"⟩) ∈ bw := bw_in 552 (by decide +kernel) rfl
theorem m_553 : (Cond.code ⟨"HotAisle$Vessel", "answer", "(I)I"⟩ prog_7_method_2_code 2 (some FieldType.int)) ∈ bw := bw_in 553 (by decide +kernel) rfl
theorem m_555 : (Cond.methodLink "HotAisle$Vessel" 33 ⟨"HotAisle$Stuff", "of", "(I)I"⟩) ∈ bw := bw_in 555 (by decide +kernel) rfl
theorem m_556 : (Cond.methodLink "HotAisleLaw" 62 ⟨"HotAisle", "book", "(II)I"⟩) ∈ bw := bw_in 556 (by decide +kernel) rfl
theorem m_557 : (Cond.instanceMethod ⟨"HotAisle", "book", "(II)I"⟩) ∈ bw := bw_in 557 (by decide +kernel) rfl
theorem m_558 : (Cond.selects "HotAisle" ⟨"HotAisle", "book", "(II)I"⟩ ⟨"HotAisle", "book", "(II)I"⟩) ∈ bw := bw_in 558 (by decide +kernel) rfl
theorem m_559 : (Cond.code ⟨"HotAisle", "book", "(II)I"⟩ prog_1_method_13_code 3 (some FieldType.int)) ∈ bw := bw_in 559 (by decide +kernel) rfl
theorem m_560 : (Cond.methodLink "HotAisle" 113 ⟨"HotAisle$Aisle", "stuffAt", "(II)I"⟩) ∈ bw := bw_in 560 (by decide +kernel) rfl
theorem m_561 : (Cond.instanceMethod ⟨"HotAisle$Aisle", "stuffAt", "(II)I"⟩) ∈ bw := bw_in 561 (by decide +kernel) rfl
theorem m_562 : (Cond.selects "HotAisle$Aisle" ⟨"HotAisle$Aisle", "stuffAt", "(II)I"⟩ ⟨"HotAisle$Aisle", "stuffAt", "(II)I"⟩) ∈ bw := bw_in 562 (by decide +kernel) rfl
theorem m_563 : (Cond.code ⟨"HotAisle$Aisle", "stuffAt", "(II)I"⟩ prog_2_method_11_code 3 (some FieldType.int)) ∈ bw := bw_in 563 (by decide +kernel) rfl
theorem m_564 : (Cond.methodLink "HotAisle$Aisle" 108 ⟨"HotAisle$Stuff", "of", "(I)I"⟩) ∈ bw := bw_in 564 (by decide +kernel) rfl
theorem m_565 : (Cond.methodLink "HotAisle$Aisle" 112 ⟨"HotAisle$Aisle", "inVessels", "(I)I"⟩) ∈ bw := bw_in 565 (by decide +kernel) rfl
theorem m_567 : (Cond.instanceMethod ⟨"HotAisle$Aisle", "inVessels", "(I)I"⟩) ∈ bw := bw_in 567 (by decide +kernel) rfl
theorem m_568 : (Cond.code ⟨"HotAisle$Aisle", "inVessels", "(I)I"⟩ prog_2_method_12_code 7 (some FieldType.int)) ∈ bw := bw_in 568 (by decide +kernel) rfl
theorem m_569 : (Cond.methodLink "HotAisle$Aisle" 115 ⟨"HotAisle$Aisle", "inLadles", "(I)I"⟩) ∈ bw := bw_in 569 (by decide +kernel) rfl
theorem m_571 : (Cond.instanceMethod ⟨"HotAisle$Aisle", "inLadles", "(I)I"⟩) ∈ bw := bw_in 571 (by decide +kernel) rfl
theorem m_572 : (Cond.code ⟨"HotAisle$Aisle", "inLadles", "(I)I"⟩ prog_2_method_13_code 7 (some FieldType.int)) ∈ bw := bw_in 572 (by decide +kernel) rfl
theorem m_573 : (Cond.methodLink "HotAisle$Aisle" 118 ⟨"HotAisle$Aisle", "inSkulls", "(I)I"⟩) ∈ bw := bw_in 573 (by decide +kernel) rfl
theorem m_575 : (Cond.instanceMethod ⟨"HotAisle$Aisle", "inSkulls", "(I)I"⟩) ∈ bw := bw_in 575 (by decide +kernel) rfl
theorem m_576 : (Cond.code ⟨"HotAisle$Aisle", "inSkulls", "(I)I"⟩ prog_2_method_14_code 7 (some FieldType.int)) ∈ bw := bw_in 576 (by decide +kernel) rfl
theorem m_577 : (Cond.methodLink "HotAisleLaw" 66 ⟨"HotAisle", "count", "(I)I"⟩) ∈ bw := bw_in 577 (by decide +kernel) rfl
theorem m_578 : (Cond.instanceMethod ⟨"HotAisle", "count", "(I)I"⟩) ∈ bw := bw_in 578 (by decide +kernel) rfl
theorem m_579 : (Cond.selects "HotAisle" ⟨"HotAisle", "count", "(I)I"⟩ ⟨"HotAisle", "count", "(I)I"⟩) ∈ bw := bw_in 579 (by decide +kernel) rfl
theorem m_580 : (Cond.code ⟨"HotAisle", "count", "(I)I"⟩ prog_1_method_14_code 2 (some FieldType.int)) ∈ bw := bw_in 580 (by decide +kernel) rfl
theorem m_581 : (Cond.methodLink "HotAisle" 120 ⟨"HotAisle$Books", "answer", "(I)I"⟩) ∈ bw := bw_in 581 (by decide +kernel) rfl
theorem m_582 : (Cond.instanceMethod ⟨"HotAisle$Books", "answer", "(I)I"⟩) ∈ bw := bw_in 582 (by decide +kernel) rfl
theorem m_583 : (Cond.selects "HotAisle$Books" ⟨"HotAisle$Books", "answer", "(I)I"⟩ ⟨"HotAisle$Books", "answer", "(I)I"⟩) ∈ bw := bw_in 583 (by decide +kernel) rfl
theorem m_584 : (Cond.code ⟨"HotAisle$Books", "answer", "(I)I"⟩ prog_3_method_2_code 2 (some FieldType.int)) ∈ bw := bw_in 584 (by decide +kernel) rfl
theorem m_585 : (Cond.methodLink "HotAisleLaw" 70 ⟨"HotAisle", "keep", "()I"⟩) ∈ bw := bw_in 585 (by decide +kernel) rfl
theorem m_586 : (Cond.instanceMethod ⟨"HotAisle", "keep", "()I"⟩) ∈ bw := bw_in 586 (by decide +kernel) rfl
theorem m_587 : (Cond.selects "HotAisle" ⟨"HotAisle", "keep", "()I"⟩ ⟨"HotAisle", "keep", "()I"⟩) ∈ bw := bw_in 587 (by decide +kernel) rfl
theorem m_588 : (Cond.code ⟨"HotAisle", "keep", "()I"⟩ prog_1_method_15_code 1 (some FieldType.int)) ∈ bw := bw_in 588 (by decide +kernel) rfl
theorem m_589 : (Cond.methodLink "HotAisle" 121 ⟨"HotAisle$Aisle", "copyFrom", "(LHotAisle$Aisle;)V"⟩) ∈ bw := bw_in 589 (by decide +kernel) rfl
theorem m_590 : (Cond.instanceMethod ⟨"HotAisle$Aisle", "copyFrom", "(LHotAisle$Aisle;)V"⟩) ∈ bw := bw_in 590 (by decide +kernel) rfl
theorem m_591 : (Cond.selects "HotAisle$Aisle" ⟨"HotAisle$Aisle", "copyFrom", "(LHotAisle$Aisle;)V"⟩ ⟨"HotAisle$Aisle", "copyFrom", "(LHotAisle$Aisle;)V"⟩) ∈ bw := bw_in 591 (by decide +kernel) rfl
theorem m_592 : (Cond.code ⟨"HotAisle$Aisle", "copyFrom", "(LHotAisle$Aisle;)V"⟩ prog_2_method_2_code 3 (none : Option Jvm.ClassFile.FieldType)) ∈ bw := bw_in 592 (by decide +kernel) rfl
theorem m_593 : (Cond.methodLink "HotAisle$Aisle" 64 ⟨"HotAisle$Stuff", "copyFrom", "(LHotAisle$Stuff;)V"⟩) ∈ bw := bw_in 593 (by decide +kernel) rfl
theorem m_594 : (Cond.instanceMethod ⟨"HotAisle$Stuff", "copyFrom", "(LHotAisle$Stuff;)V"⟩) ∈ bw := bw_in 594 (by decide +kernel) rfl
theorem m_595 : (Cond.selects "HotAisle$Stuff" ⟨"HotAisle$Stuff", "copyFrom", "(LHotAisle$Stuff;)V"⟩ ⟨"HotAisle$Stuff", "copyFrom", "(LHotAisle$Stuff;)V"⟩) ∈ bw := bw_in 595 (by decide +kernel) rfl
theorem m_596 : (Cond.code ⟨"HotAisle$Stuff", "copyFrom", "(LHotAisle$Stuff;)V"⟩ prog_6_method_7_code 2 (none : Option Jvm.ClassFile.FieldType)) ∈ bw := bw_in 596 (by decide +kernel) rfl
theorem m_597 : (Cond.methodLink "HotAisle$Stuff" 24 ⟨"HotAisle$Stuff", "clear", "()V"⟩) ∈ bw := bw_in 597 (by decide +kernel) rfl
theorem m_598 : (Cond.methodLink "HotAisle$Stuff" 27 ⟨"HotAisle$Stuff", "addAll", "(LHotAisle$Stuff;)V"⟩) ∈ bw := bw_in 598 (by decide +kernel) rfl
theorem m_599 : (Cond.methodLink "HotAisle$Aisle" 68 ⟨"HotAisle$Vessel", "copyFrom", "(LHotAisle$Vessel;)V"⟩) ∈ bw := bw_in 599 (by decide +kernel) rfl
theorem m_600 : (Cond.instanceMethod ⟨"HotAisle$Vessel", "copyFrom", "(LHotAisle$Vessel;)V"⟩) ∈ bw := bw_in 600 (by decide +kernel) rfl
theorem m_601 : (Cond.selects "HotAisle$Vessel" ⟨"HotAisle$Vessel", "copyFrom", "(LHotAisle$Vessel;)V"⟩ ⟨"HotAisle$Vessel", "copyFrom", "(LHotAisle$Vessel;)V"⟩) ∈ bw := bw_in 601 (by decide +kernel) rfl
theorem m_602 : (Cond.code ⟨"HotAisle$Vessel", "copyFrom", "(LHotAisle$Vessel;)V"⟩ prog_7_method_7_code 2 (none : Option Jvm.ClassFile.FieldType)) ∈ bw := bw_in 602 (by decide +kernel) rfl
theorem m_603 : (Cond.methodLink "HotAisle$Vessel" 60 ⟨"HotAisle$Stuff", "copyFrom", "(LHotAisle$Stuff;)V"⟩) ∈ bw := bw_in 603 (by decide +kernel) rfl
theorem m_604 : (Cond.methodLink "HotAisle$Aisle" 71 ⟨"HotAisle$Ladle", "copyFrom", "(LHotAisle$Ladle;)V"⟩) ∈ bw := bw_in 604 (by decide +kernel) rfl
theorem m_605 : (Cond.instanceMethod ⟨"HotAisle$Ladle", "copyFrom", "(LHotAisle$Ladle;)V"⟩) ∈ bw := bw_in 605 (by decide +kernel) rfl
theorem m_606 : (Cond.selects "HotAisle$Ladle" ⟨"HotAisle$Ladle", "copyFrom", "(LHotAisle$Ladle;)V"⟩ ⟨"HotAisle$Ladle", "copyFrom", "(LHotAisle$Ladle;)V"⟩) ∈ bw := bw_in 606 (by decide +kernel) rfl
theorem m_607 : (Cond.code ⟨"HotAisle$Ladle", "copyFrom", "(LHotAisle$Ladle;)V"⟩ prog_5_method_7_code 2 (none : Option Jvm.ClassFile.FieldType)) ∈ bw := bw_in 607 (by decide +kernel) rfl
theorem m_608 : (Cond.methodLink "HotAisle$Ladle" 52 ⟨"HotAisle$Stuff", "copyFrom", "(LHotAisle$Stuff;)V"⟩) ∈ bw := bw_in 608 (by decide +kernel) rfl
theorem m_609 : (Cond.methodLink "HotAisle$Aisle" 74 ⟨"HotAisle$Crane", "copyFrom", "(LHotAisle$Crane;)V"⟩) ∈ bw := bw_in 609 (by decide +kernel) rfl
theorem m_610 : (Cond.instanceMethod ⟨"HotAisle$Crane", "copyFrom", "(LHotAisle$Crane;)V"⟩) ∈ bw := bw_in 610 (by decide +kernel) rfl
theorem m_611 : (Cond.selects "HotAisle$Crane" ⟨"HotAisle$Crane", "copyFrom", "(LHotAisle$Crane;)V"⟩ ⟨"HotAisle$Crane", "copyFrom", "(LHotAisle$Crane;)V"⟩) ∈ bw := bw_in 611 (by decide +kernel) rfl
theorem m_612 : (Cond.code ⟨"HotAisle$Crane", "copyFrom", "(LHotAisle$Crane;)V"⟩ prog_4_method_8_code 2 (none : Option Jvm.ClassFile.FieldType)) ∈ bw := bw_in 612 (by decide +kernel) rfl
theorem m_614 : (Cond.static ⟨"HotAisle", "copyRow", "([I[I)V"⟩) ∈ bw := bw_in 614 (by decide +kernel) rfl
theorem m_615 : (Cond.code ⟨"HotAisle", "copyRow", "([I[I)V"⟩ prog_1_method_19_code 3 (none : Option Jvm.ClassFile.FieldType)) ∈ bw := bw_in 615 (by decide +kernel) rfl
theorem m_616 : (Cond.methodLink "HotAisle$Aisle" 77 ⟨"HotAisle$Books", "copyFrom", "(LHotAisle$Books;)V"⟩) ∈ bw := bw_in 616 (by decide +kernel) rfl
theorem m_617 : (Cond.instanceMethod ⟨"HotAisle$Books", "copyFrom", "(LHotAisle$Books;)V"⟩) ∈ bw := bw_in 617 (by decide +kernel) rfl
theorem m_618 : (Cond.selects "HotAisle$Books" ⟨"HotAisle$Books", "copyFrom", "(LHotAisle$Books;)V"⟩ ⟨"HotAisle$Books", "copyFrom", "(LHotAisle$Books;)V"⟩) ∈ bw := bw_in 618 (by decide +kernel) rfl
theorem m_619 : (Cond.code ⟨"HotAisle$Books", "copyFrom", "(LHotAisle$Books;)V"⟩ prog_3_method_3_code 2 (none : Option Jvm.ClassFile.FieldType)) ∈ bw := bw_in 619 (by decide +kernel) rfl
theorem m_620 : (Cond.methodLink "HotAisle$Books" 55 ⟨"HotAisle$Stuff", "copyFrom", "(LHotAisle$Stuff;)V"⟩) ∈ bw := bw_in 620 (by decide +kernel) rfl
theorem m_621 : (Cond.methodLink "HotAisleLaw" 75 ⟨"HotAisle", "back", "()I"⟩) ∈ bw := bw_in 621 (by decide +kernel) rfl
theorem m_622 : (Cond.instanceMethod ⟨"HotAisle", "back", "()I"⟩) ∈ bw := bw_in 622 (by decide +kernel) rfl
theorem m_623 : (Cond.selects "HotAisle" ⟨"HotAisle", "back", "()I"⟩ ⟨"HotAisle", "back", "()I"⟩) ∈ bw := bw_in 623 (by decide +kernel) rfl
theorem m_624 : (Cond.code ⟨"HotAisle", "back", "()I"⟩ prog_1_method_16_code 1 (some FieldType.int)) ∈ bw := bw_in 624 (by decide +kernel) rfl
theorem m_625 : (Cond.classLink "HotAisleLaw" 10 "HotAisleModel") ∈ bw := bw_in 625 (by decide +kernel) rfl
theorem m_626 : (Cond.instantiable "HotAisleModel" 3) ∈ bw := bw_in 626 (by decide +kernel) rfl
theorem m_627 : (Cond.methodLink "HotAisleLaw" 12 ⟨"HotAisleModel", "<init>", "()V"⟩) ∈ bw := bw_in 627 (by decide +kernel) rfl
theorem m_628 : (Cond.instanceMethod ⟨"HotAisleModel", "<init>", "()V"⟩) ∈ bw := bw_in 628 (by decide +kernel) rfl
theorem m_629 : (Cond.code ⟨"HotAisleModel", "<init>", "()V"⟩ prog_9_method_1_code 2 (none : Option Jvm.ClassFile.FieldType)) ∈ bw := bw_in 629 (by decide +kernel) rfl
theorem m_630 : (Cond.methodLink "HotAisleModel" 1 ⟨"java/lang/Object", "<init>", "()V"⟩) ∈ bw := bw_in 630 (by decide +kernel) rfl
theorem m_631 : (Cond.fieldLink "HotAisleModel" 7 "HotAisleModel" "st" "[I") ∈ bw := bw_in 631 (by decide +kernel) rfl
theorem m_632 : (Cond.fieldLink "HotAisleModel" 13 "HotAisleModel" "kept" "[I") ∈ bw := bw_in 632 (by decide +kernel) rfl
theorem m_633 : (Cond.fieldLink "HotAisleModel" 90 "HotAisleModel" "keptMany" "I") ∈ bw := bw_in 633 (by decide +kernel) rfl
theorem m_634 : (Cond.laysFinal "HotAisleModel" "HotAisleModel" "st" "[I") ∈ bw := bw_in 634 (by decide +kernel) rfl
theorem m_636 : (Cond.laysFinal "HotAisleModel" "HotAisleModel" "kept" "[I") ∈ bw := bw_in 636 (by decide +kernel) rfl
theorem m_638 : (Cond.lays "HotAisleModel" "HotAisleModel" "keptMany" "I") ∈ bw := bw_in 638 (by decide +kernel) rfl
theorem m_641 : (Cond.methodLink "HotAisleLaw" 17 ⟨"HotAisleModel", "fed", "(Z)I"⟩) ∈ bw := bw_in 641 (by decide +kernel) rfl
theorem m_642 : (Cond.instanceMethod ⟨"HotAisleModel", "fed", "(Z)I"⟩) ∈ bw := bw_in 642 (by decide +kernel) rfl
theorem m_643 : (Cond.selects "HotAisleModel" ⟨"HotAisleModel", "fed", "(Z)I"⟩ ⟨"HotAisleModel", "fed", "(Z)I"⟩) ∈ bw := bw_in 643 (by decide +kernel) rfl
theorem m_644 : (Cond.code ⟨"HotAisleModel", "fed", "(Z)I"⟩ prog_9_method_3_code 3 (some FieldType.int)) ∈ bw := bw_in 644 (by decide +kernel) rfl
theorem m_645 : (Cond.methodLink "HotAisleLaw" 22 ⟨"HotAisleModel", "limit", "(I)I"⟩) ∈ bw := bw_in 645 (by decide +kernel) rfl
theorem m_646 : (Cond.instanceMethod ⟨"HotAisleModel", "limit", "(I)I"⟩) ∈ bw := bw_in 646 (by decide +kernel) rfl
theorem m_647 : (Cond.selects "HotAisleModel" ⟨"HotAisleModel", "limit", "(I)I"⟩ ⟨"HotAisleModel", "limit", "(I)I"⟩) ∈ bw := bw_in 647 (by decide +kernel) rfl
theorem m_648 : (Cond.code ⟨"HotAisleModel", "limit", "(I)I"⟩ prog_9_method_4_code 3 (some FieldType.int)) ∈ bw := bw_in 648 (by decide +kernel) rfl
theorem m_649 : (Cond.methodLink "HotAisleModel" 16 ⟨"HotAisleModel", "in", "(III)Z"⟩) ∈ bw := bw_in 649 (by decide +kernel) rfl
theorem m_650 : (Cond.static ⟨"HotAisleModel", "in", "(III)Z"⟩) ∈ bw := bw_in 650 (by decide +kernel) rfl
theorem m_651 : (Cond.code ⟨"HotAisleModel", "in", "(III)Z"⟩ prog_9_method_2_code 3 (some FieldType.boolean)) ∈ bw := bw_in 651 (by decide +kernel) rfl
theorem m_652 : (Cond.methodLink "HotAisleLaw" 27 ⟨"HotAisleModel", "blow", "(IZ)I"⟩) ∈ bw := bw_in 652 (by decide +kernel) rfl
theorem m_653 : (Cond.instanceMethod ⟨"HotAisleModel", "blow", "(IZ)I"⟩) ∈ bw := bw_in 653 (by decide +kernel) rfl
theorem m_654 : (Cond.selects "HotAisleModel" ⟨"HotAisleModel", "blow", "(IZ)I"⟩ ⟨"HotAisleModel", "blow", "(IZ)I"⟩) ∈ bw := bw_in 654 (by decide +kernel) rfl
theorem m_655 : (Cond.code ⟨"HotAisleModel", "blow", "(IZ)I"⟩ prog_9_method_6_code 4 (some FieldType.int)) ∈ bw := bw_in 655 (by decide +kernel) rfl
theorem m_656 : (Cond.methodLink "HotAisleModel" 20 ⟨"HotAisleModel", "sum", "(I)I"⟩) ∈ bw := bw_in 656 (by decide +kernel) rfl
theorem m_658 : (Cond.instanceMethod ⟨"HotAisleModel", "sum", "(I)I"⟩) ∈ bw := bw_in 658 (by decide +kernel) rfl
theorem m_659 : (Cond.code ⟨"HotAisleModel", "sum", "(I)I"⟩ prog_9_method_5_code 2 (some FieldType.int)) ∈ bw := bw_in 659 (by decide +kernel) rfl
theorem m_660 : (Cond.methodLink "HotAisleLaw" 32 ⟨"HotAisleModel", "cold", "(II)I"⟩) ∈ bw := bw_in 660 (by decide +kernel) rfl
theorem m_661 : (Cond.instanceMethod ⟨"HotAisleModel", "cold", "(II)I"⟩) ∈ bw := bw_in 661 (by decide +kernel) rfl
theorem m_662 : (Cond.selects "HotAisleModel" ⟨"HotAisleModel", "cold", "(II)I"⟩ ⟨"HotAisleModel", "cold", "(II)I"⟩) ∈ bw := bw_in 662 (by decide +kernel) rfl
theorem m_663 : (Cond.code ⟨"HotAisleModel", "cold", "(II)I"⟩ prog_9_method_7_code 4 (some FieldType.int)) ∈ bw := bw_in 663 (by decide +kernel) rfl
theorem m_664 : (Cond.methodLink "HotAisleLaw" 37 ⟨"HotAisleModel", "order", "(III)I"⟩) ∈ bw := bw_in 664 (by decide +kernel) rfl
theorem m_665 : (Cond.instanceMethod ⟨"HotAisleModel", "order", "(III)I"⟩) ∈ bw := bw_in 665 (by decide +kernel) rfl
theorem m_666 : (Cond.selects "HotAisleModel" ⟨"HotAisleModel", "order", "(III)I"⟩ ⟨"HotAisleModel", "order", "(III)I"⟩) ∈ bw := bw_in 666 (by decide +kernel) rfl
theorem m_667 : (Cond.code ⟨"HotAisleModel", "order", "(III)I"⟩ prog_9_method_8_code 4 (some FieldType.int)) ∈ bw := bw_in 667 (by decide +kernel) rfl
theorem m_668 : (Cond.methodLink "HotAisleLaw" 41 ⟨"HotAisleModel", "drop", "(I)I"⟩) ∈ bw := bw_in 668 (by decide +kernel) rfl
theorem m_669 : (Cond.instanceMethod ⟨"HotAisleModel", "drop", "(I)I"⟩) ∈ bw := bw_in 669 (by decide +kernel) rfl
theorem m_670 : (Cond.selects "HotAisleModel" ⟨"HotAisleModel", "drop", "(I)I"⟩ ⟨"HotAisleModel", "drop", "(I)I"⟩) ∈ bw := bw_in 670 (by decide +kernel) rfl
theorem m_671 : (Cond.code ⟨"HotAisleModel", "drop", "(I)I"⟩ prog_9_method_9_code 3 (some FieldType.int)) ∈ bw := bw_in 671 (by decide +kernel) rfl
theorem m_672 : (Cond.methodLink "HotAisleLaw" 45 ⟨"HotAisleModel", "minutes", "(I)I"⟩) ∈ bw := bw_in 672 (by decide +kernel) rfl
theorem m_673 : (Cond.instanceMethod ⟨"HotAisleModel", "minutes", "(I)I"⟩) ∈ bw := bw_in 673 (by decide +kernel) rfl
theorem m_674 : (Cond.selects "HotAisleModel" ⟨"HotAisleModel", "minutes", "(I)I"⟩ ⟨"HotAisleModel", "minutes", "(I)I"⟩) ∈ bw := bw_in 674 (by decide +kernel) rfl
theorem m_675 : (Cond.code ⟨"HotAisleModel", "minutes", "(I)I"⟩ prog_9_method_29_code 4 (some FieldType.int)) ∈ bw := bw_in 675 (by decide +kernel) rfl
theorem m_676 : (Cond.methodLink "HotAisleModel" 83 ⟨"HotAisleModel", "minute", "()V"⟩) ∈ bw := bw_in 676 (by decide +kernel) rfl
theorem m_678 : (Cond.instanceMethod ⟨"HotAisleModel", "minute", "()V"⟩) ∈ bw := bw_in 678 (by decide +kernel) rfl
theorem m_679 : (Cond.code ⟨"HotAisleModel", "minute", "()V"⟩ prog_9_method_28_code 2 (none : Option Jvm.ClassFile.FieldType)) ∈ bw := bw_in 679 (by decide +kernel) rfl
theorem m_680 : (Cond.methodLink "HotAisleModel" 74 ⟨"HotAisleModel", "feeds", "()V"⟩) ∈ bw := bw_in 680 (by decide +kernel) rfl
theorem m_682 : (Cond.instanceMethod ⟨"HotAisleModel", "feeds", "()V"⟩) ∈ bw := bw_in 682 (by decide +kernel) rfl
theorem m_683 : (Cond.code ⟨"HotAisleModel", "feeds", "()V"⟩ prog_9_method_10_code 2 (none : Option Jvm.ClassFile.FieldType)) ∈ bw := bw_in 683 (by decide +kernel) rfl
theorem m_684 : (Cond.methodLink "HotAisleModel" 77 ⟨"HotAisleModel", "blows", "(I)V"⟩) ∈ bw := bw_in 684 (by decide +kernel) rfl
theorem m_686 : (Cond.instanceMethod ⟨"HotAisleModel", "blows", "(I)V"⟩) ∈ bw := bw_in 686 (by decide +kernel) rfl
theorem m_687 : (Cond.code ⟨"HotAisleModel", "blows", "(I)V"⟩ prog_9_method_11_code 6 (none : Option Jvm.ClassFile.FieldType)) ∈ bw := bw_in 687 (by decide +kernel) rfl
theorem m_688 : (Cond.methodLink "HotAisleModel" 80 ⟨"HotAisleModel", "goes", "(I)V"⟩) ∈ bw := bw_in 688 (by decide +kernel) rfl
theorem m_690 : (Cond.instanceMethod ⟨"HotAisleModel", "goes", "(I)V"⟩) ∈ bw := bw_in 690 (by decide +kernel) rfl
theorem m_691 : (Cond.code ⟨"HotAisleModel", "goes", "(I)V"⟩ prog_9_method_27_code 4 (none : Option Jvm.ClassFile.FieldType)) ∈ bw := bw_in 691 (by decide +kernel) rfl
theorem m_692 : (Cond.methodLink "HotAisleModel" 67 ⟨"HotAisleModel", "finishes", "(I)V"⟩) ∈ bw := bw_in 692 (by decide +kernel) rfl
theorem m_694 : (Cond.instanceMethod ⟨"HotAisleModel", "finishes", "(I)V"⟩) ∈ bw := bw_in 694 (by decide +kernel) rfl
theorem m_695 : (Cond.code ⟨"HotAisleModel", "finishes", "(I)V"⟩ prog_9_method_26_code 4 (none : Option Jvm.ClassFile.FieldType)) ∈ bw := bw_in 695 (by decide +kernel) rfl
theorem m_696 : (Cond.methodLink "HotAisleModel" 71 ⟨"HotAisleModel", "does", "(II)Z"⟩) ∈ bw := bw_in 696 (by decide +kernel) rfl
theorem m_698 : (Cond.instanceMethod ⟨"HotAisleModel", "does", "(II)Z"⟩) ∈ bw := bw_in 698 (by decide +kernel) rfl
theorem m_699 : (Cond.code ⟨"HotAisleModel", "does", "(II)Z"⟩ prog_9_method_25_code 5 (some FieldType.boolean)) ∈ bw := bw_in 699 (by decide +kernel) rfl
theorem m_700 : (Cond.methodLink "HotAisleModel" 45 ⟨"HotAisleModel", "takes", "(II)Z"⟩) ∈ bw := bw_in 700 (by decide +kernel) rfl
theorem m_702 : (Cond.instanceMethod ⟨"HotAisleModel", "takes", "(II)Z"⟩) ∈ bw := bw_in 702 (by decide +kernel) rfl
theorem m_703 : (Cond.code ⟨"HotAisleModel", "takes", "(II)Z"⟩ prog_9_method_16_code 4 (some FieldType.boolean)) ∈ bw := bw_in 703 (by decide +kernel) rfl
theorem m_704 : (Cond.methodLink "HotAisleModel" 27 ⟨"HotAisleModel", "standsAt", "(I)I"⟩) ∈ bw := bw_in 704 (by decide +kernel) rfl
theorem m_706 : (Cond.instanceMethod ⟨"HotAisleModel", "standsAt", "(I)I"⟩) ∈ bw := bw_in 706 (by decide +kernel) rfl
theorem m_707 : (Cond.code ⟨"HotAisleModel", "standsAt", "(I)I"⟩ prog_9_method_14_code 3 (some FieldType.int)) ∈ bw := bw_in 707 (by decide +kernel) rfl
theorem m_708 : (Cond.methodLink "HotAisleModel" 49 ⟨"HotAisleModel", "sets", "(II)Z"⟩) ∈ bw := bw_in 708 (by decide +kernel) rfl
theorem m_710 : (Cond.instanceMethod ⟨"HotAisleModel", "sets", "(II)Z"⟩) ∈ bw := bw_in 710 (by decide +kernel) rfl
theorem m_711 : (Cond.code ⟨"HotAisleModel", "sets", "(II)Z"⟩ prog_9_method_17_code 4 (some FieldType.boolean)) ∈ bw := bw_in 711 (by decide +kernel) rfl
theorem m_712 : (Cond.methodLink "HotAisleModel" 30 ⟨"HotAisleModel", "isFloor", "(I)Z"⟩) ∈ bw := bw_in 712 (by decide +kernel) rfl
theorem m_713 : (Cond.static ⟨"HotAisleModel", "isFloor", "(I)Z"⟩) ∈ bw := bw_in 713 (by decide +kernel) rfl
theorem m_714 : (Cond.code ⟨"HotAisleModel", "isFloor", "(I)Z"⟩ prog_9_method_13_code 1 (some FieldType.boolean)) ∈ bw := bw_in 714 (by decide +kernel) rfl
theorem m_715 : (Cond.methodLink "HotAisleModel" 24 ⟨"HotAisleModel", "vesselAt", "(I)I"⟩) ∈ bw := bw_in 715 (by decide +kernel) rfl
theorem m_716 : (Cond.static ⟨"HotAisleModel", "vesselAt", "(I)I"⟩) ∈ bw := bw_in 716 (by decide +kernel) rfl
theorem m_717 : (Cond.code ⟨"HotAisleModel", "vesselAt", "(I)I"⟩ prog_9_method_12_code 1 (some FieldType.int)) ∈ bw := bw_in 717 (by decide +kernel) rfl
theorem m_718 : (Cond.methodLink "HotAisleModel" 52 ⟨"HotAisleModel", "taps", "(II)Z"⟩) ∈ bw := bw_in 718 (by decide +kernel) rfl
theorem m_720 : (Cond.instanceMethod ⟨"HotAisleModel", "taps", "(II)Z"⟩) ∈ bw := bw_in 720 (by decide +kernel) rfl
theorem m_721 : (Cond.code ⟨"HotAisleModel", "taps", "(II)Z"⟩ prog_9_method_18_code 10 (some FieldType.boolean)) ∈ bw := bw_in 721 (by decide +kernel) rfl
theorem m_722 : (Cond.methodLink "HotAisleModel" 34 ⟨"HotAisleModel", "room", "(I)I"⟩) ∈ bw := bw_in 722 (by decide +kernel) rfl
theorem m_724 : (Cond.instanceMethod ⟨"HotAisleModel", "room", "(I)I"⟩) ∈ bw := bw_in 724 (by decide +kernel) rfl
theorem m_725 : (Cond.code ⟨"HotAisleModel", "room", "(I)I"⟩ prog_9_method_15_code 2 (some FieldType.int)) ∈ bw := bw_in 725 (by decide +kernel) rfl
theorem m_726 : (Cond.methodLink "HotAisleModel" 37 ⟨"HotAisleModel", "moves", "(IIII)V"⟩) ∈ bw := bw_in 726 (by decide +kernel) rfl
theorem m_728 : (Cond.instanceMethod ⟨"HotAisleModel", "moves", "(IIII)V"⟩) ∈ bw := bw_in 728 (by decide +kernel) rfl
theorem m_729 : (Cond.code ⟨"HotAisleModel", "moves", "(IIII)V"⟩ prog_9_method_19_code 5 (none : Option Jvm.ClassFile.FieldType)) ∈ bw := bw_in 729 (by decide +kernel) rfl
theorem m_730 : (Cond.methodLink "HotAisleModel" 55 ⟨"HotAisleModel", "pours", "(II)Z"⟩) ∈ bw := bw_in 730 (by decide +kernel) rfl
theorem m_732 : (Cond.instanceMethod ⟨"HotAisleModel", "pours", "(II)Z"⟩) ∈ bw := bw_in 732 (by decide +kernel) rfl
theorem m_733 : (Cond.code ⟨"HotAisleModel", "pours", "(II)Z"⟩ prog_9_method_21_code 10 (some FieldType.boolean)) ∈ bw := bw_in 733 (by decide +kernel) rfl
theorem m_734 : (Cond.methodLink "HotAisleModel" 41 ⟨"HotAisleModel", "skulls", "(II)V"⟩) ∈ bw := bw_in 734 (by decide +kernel) rfl
theorem m_736 : (Cond.instanceMethod ⟨"HotAisleModel", "skulls", "(II)V"⟩) ∈ bw := bw_in 736 (by decide +kernel) rfl
theorem m_737 : (Cond.code ⟨"HotAisleModel", "skulls", "(II)V"⟩ prog_9_method_20_code 6 (none : Option Jvm.ClassFile.FieldType)) ∈ bw := bw_in 737 (by decide +kernel) rfl
theorem m_738 : (Cond.methodLink "HotAisleModel" 58 ⟨"HotAisleModel", "skims", "(II)Z"⟩) ∈ bw := bw_in 738 (by decide +kernel) rfl
theorem m_740 : (Cond.instanceMethod ⟨"HotAisleModel", "skims", "(II)Z"⟩) ∈ bw := bw_in 740 (by decide +kernel) rfl
theorem m_741 : (Cond.code ⟨"HotAisleModel", "skims", "(II)Z"⟩ prog_9_method_22_code 5 (some FieldType.boolean)) ∈ bw := bw_in 741 (by decide +kernel) rfl
theorem m_742 : (Cond.methodLink "HotAisleModel" 61 ⟨"HotAisleModel", "draws", "(II)Z"⟩) ∈ bw := bw_in 742 (by decide +kernel) rfl
theorem m_744 : (Cond.instanceMethod ⟨"HotAisleModel", "draws", "(II)Z"⟩) ∈ bw := bw_in 744 (by decide +kernel) rfl
theorem m_745 : (Cond.code ⟨"HotAisleModel", "draws", "(II)Z"⟩ prog_9_method_23_code 5 (some FieldType.boolean)) ∈ bw := bw_in 745 (by decide +kernel) rfl
theorem m_746 : (Cond.methodLink "HotAisleModel" 64 ⟨"HotAisleModel", "cleans", "(II)Z"⟩) ∈ bw := bw_in 746 (by decide +kernel) rfl
theorem m_748 : (Cond.instanceMethod ⟨"HotAisleModel", "cleans", "(II)Z"⟩) ∈ bw := bw_in 748 (by decide +kernel) rfl
theorem m_749 : (Cond.code ⟨"HotAisleModel", "cleans", "(II)Z"⟩ prog_9_method_24_code 4 (some FieldType.boolean)) ∈ bw := bw_in 749 (by decide +kernel) rfl
theorem m_750 : (Cond.methodLink "HotAisleLaw" 49 ⟨"HotAisleModel", "until", "(I)I"⟩) ∈ bw := bw_in 750 (by decide +kernel) rfl
theorem m_751 : (Cond.instanceMethod ⟨"HotAisleModel", "until", "(I)I"⟩) ∈ bw := bw_in 751 (by decide +kernel) rfl
theorem m_752 : (Cond.selects "HotAisleModel" ⟨"HotAisleModel", "until", "(I)I"⟩ ⟨"HotAisleModel", "until", "(I)I"⟩) ∈ bw := bw_in 752 (by decide +kernel) rfl
theorem m_753 : (Cond.code ⟨"HotAisleModel", "until", "(I)I"⟩ prog_9_method_30_code 3 (some FieldType.int)) ∈ bw := bw_in 753 (by decide +kernel) rfl
theorem m_754 : (Cond.methodLink "HotAisleLaw" 53 ⟨"HotAisleModel", "crane", "(II)I"⟩) ∈ bw := bw_in 754 (by decide +kernel) rfl
theorem m_755 : (Cond.instanceMethod ⟨"HotAisleModel", "crane", "(II)I"⟩) ∈ bw := bw_in 755 (by decide +kernel) rfl
theorem m_756 : (Cond.selects "HotAisleModel" ⟨"HotAisleModel", "crane", "(II)I"⟩ ⟨"HotAisleModel", "crane", "(II)I"⟩) ∈ bw := bw_in 756 (by decide +kernel) rfl
theorem m_757 : (Cond.code ⟨"HotAisleModel", "crane", "(II)I"⟩ prog_9_method_31_code 3 (some FieldType.int)) ∈ bw := bw_in 757 (by decide +kernel) rfl
theorem m_758 : (Cond.methodLink "HotAisleLaw" 57 ⟨"HotAisleModel", "ladle", "(II)I"⟩) ∈ bw := bw_in 758 (by decide +kernel) rfl
theorem m_759 : (Cond.instanceMethod ⟨"HotAisleModel", "ladle", "(II)I"⟩) ∈ bw := bw_in 759 (by decide +kernel) rfl
theorem m_760 : (Cond.selects "HotAisleModel" ⟨"HotAisleModel", "ladle", "(II)I"⟩ ⟨"HotAisleModel", "ladle", "(II)I"⟩) ∈ bw := bw_in 760 (by decide +kernel) rfl
theorem m_761 : (Cond.code ⟨"HotAisleModel", "ladle", "(II)I"⟩ prog_9_method_32_code 3 (some FieldType.int)) ∈ bw := bw_in 761 (by decide +kernel) rfl
theorem m_762 : (Cond.methodLink "HotAisleLaw" 61 ⟨"HotAisleModel", "vessel", "(II)I"⟩) ∈ bw := bw_in 762 (by decide +kernel) rfl
theorem m_763 : (Cond.instanceMethod ⟨"HotAisleModel", "vessel", "(II)I"⟩) ∈ bw := bw_in 763 (by decide +kernel) rfl
theorem m_764 : (Cond.selects "HotAisleModel" ⟨"HotAisleModel", "vessel", "(II)I"⟩ ⟨"HotAisleModel", "vessel", "(II)I"⟩) ∈ bw := bw_in 764 (by decide +kernel) rfl
theorem m_765 : (Cond.code ⟨"HotAisleModel", "vessel", "(II)I"⟩ prog_9_method_33_code 3 (some FieldType.int)) ∈ bw := bw_in 765 (by decide +kernel) rfl
theorem m_766 : (Cond.methodLink "HotAisleLaw" 65 ⟨"HotAisleModel", "book", "(II)I"⟩) ∈ bw := bw_in 766 (by decide +kernel) rfl
theorem m_767 : (Cond.instanceMethod ⟨"HotAisleModel", "book", "(II)I"⟩) ∈ bw := bw_in 767 (by decide +kernel) rfl
theorem m_768 : (Cond.selects "HotAisleModel" ⟨"HotAisleModel", "book", "(II)I"⟩ ⟨"HotAisleModel", "book", "(II)I"⟩) ∈ bw := bw_in 768 (by decide +kernel) rfl
theorem m_769 : (Cond.code ⟨"HotAisleModel", "book", "(II)I"⟩ prog_9_method_35_code 3 (some FieldType.int)) ∈ bw := bw_in 769 (by decide +kernel) rfl
theorem m_770 : (Cond.methodLink "HotAisleModel" 86 ⟨"HotAisleModel", "several", "(III)I"⟩) ∈ bw := bw_in 770 (by decide +kernel) rfl
theorem m_772 : (Cond.instanceMethod ⟨"HotAisleModel", "several", "(III)I"⟩) ∈ bw := bw_in 772 (by decide +kernel) rfl
theorem m_773 : (Cond.code ⟨"HotAisleModel", "several", "(III)I"⟩ prog_9_method_34_code 6 (some FieldType.int)) ∈ bw := bw_in 773 (by decide +kernel) rfl
theorem m_774 : (Cond.methodLink "HotAisleLaw" 69 ⟨"HotAisleModel", "count", "(I)I"⟩) ∈ bw := bw_in 774 (by decide +kernel) rfl
theorem m_775 : (Cond.instanceMethod ⟨"HotAisleModel", "count", "(I)I"⟩) ∈ bw := bw_in 775 (by decide +kernel) rfl
theorem m_776 : (Cond.selects "HotAisleModel" ⟨"HotAisleModel", "count", "(I)I"⟩ ⟨"HotAisleModel", "count", "(I)I"⟩) ∈ bw := bw_in 776 (by decide +kernel) rfl
theorem m_777 : (Cond.code ⟨"HotAisleModel", "count", "(I)I"⟩ prog_9_method_36_code 2 (some FieldType.int)) ∈ bw := bw_in 777 (by decide +kernel) rfl
theorem m_778 : (Cond.methodLink "HotAisleLaw" 74 ⟨"HotAisleModel", "keep", "()I"⟩) ∈ bw := bw_in 778 (by decide +kernel) rfl
theorem m_779 : (Cond.instanceMethod ⟨"HotAisleModel", "keep", "()I"⟩) ∈ bw := bw_in 779 (by decide +kernel) rfl
theorem m_780 : (Cond.selects "HotAisleModel" ⟨"HotAisleModel", "keep", "()I"⟩ ⟨"HotAisleModel", "keep", "()I"⟩) ∈ bw := bw_in 780 (by decide +kernel) rfl
theorem m_781 : (Cond.code ⟨"HotAisleModel", "keep", "()I"⟩ prog_9_method_37_code 2 (some FieldType.int)) ∈ bw := bw_in 781 (by decide +kernel) rfl
theorem m_782 : (Cond.methodLink "HotAisleLaw" 78 ⟨"HotAisleModel", "back", "()I"⟩) ∈ bw := bw_in 782 (by decide +kernel) rfl
theorem m_783 : (Cond.instanceMethod ⟨"HotAisleModel", "back", "()I"⟩) ∈ bw := bw_in 783 (by decide +kernel) rfl
theorem m_784 : (Cond.selects "HotAisleModel" ⟨"HotAisleModel", "back", "()I"⟩ ⟨"HotAisleModel", "back", "()I"⟩) ∈ bw := bw_in 784 (by decide +kernel) rfl
theorem m_785 : (Cond.code ⟨"HotAisleModel", "back", "()I"⟩ prog_9_method_38_code 2 (some FieldType.int)) ∈ bw := bw_in 785 (by decide +kernel) rfl
end
section
/-! names of the program: fields by their slots, codes, methods -/
def TX0 : u_T := fun k => match k with
  | 0 => ("HotAisle$Aisle", "furnace", "LHotAisle$Stuff;", true)
  | 1 => ("HotAisle$Aisle", "vessels", "[LHotAisle$Vessel;", true)
  | 2 => ("HotAisle$Aisle", "ladles", "[LHotAisle$Ladle;", true)
  | 3 => ("HotAisle$Aisle", "left", "LHotAisle$Crane;", true)
  | 4 => ("HotAisle$Aisle", "right", "LHotAisle$Crane;", true)
  | 5 => ("HotAisle$Aisle", "books", "LHotAisle$Books;", true)
  | 6 => ("HotAisle$Aisle", "wheelCopper", "I", false)
  | 7 => ("HotAisle$Aisle", "gasLimit", "I", false)
  | _ => ("HotAisle$Aisle", "isFed", "Z", false)
def tyX0 : Nat → FieldType := fun k => match k with
  | 0 => .object "HotAisle$Stuff"
  | 1 => .array (.object "HotAisle$Vessel")
  | 2 => .array (.object "HotAisle$Ladle")
  | 3 => .object "HotAisle$Crane"
  | 4 => .object "HotAisle$Crane"
  | 5 => .object "HotAisle$Books"
  | 6 => .int
  | 7 => .int
  | _ => .boolean
theorem nmX0 : ∀ a, a < 9 → ∀ b, b < 9 → a ≠ b → (TX0 a).2.1 ≠ (TX0 b).2.1 := by decide +kernel
theorem tyX0_ok : ∀ k, k < 9 → parseFieldDescriptor (TX0 k).2.2.1 = some (tyX0 k) := by decide +kernel
abbrev cX0_init : ByteArray := prog_2_method_1_code
abbrev yX0_init : MethodName := ⟨"HotAisle$Aisle", "<init>", "()V"⟩
abbrev cX0_copyFrom : ByteArray := prog_2_method_2_code
abbrev yX0_copyFrom : MethodName := ⟨"HotAisle$Aisle", "copyFrom", "(LHotAisle$Aisle;)V"⟩
abbrev cX0_vesselNumbered : ByteArray := prog_2_method_3_code
abbrev yX0_vesselNumbered : MethodName := ⟨"HotAisle$Aisle", "vesselNumbered", "(I)LHotAisle$Vessel;"⟩
abbrev cX0_vesselAt : ByteArray := prog_2_method_4_code
abbrev yX0_vesselAt : MethodName := ⟨"HotAisle$Aisle", "vesselAt", "(I)LHotAisle$Vessel;"⟩
abbrev cX0_isFloor : ByteArray := prog_2_method_5_code
abbrev yX0_isFloor : MethodName := ⟨"HotAisle$Aisle", "isFloor", "(I)Z"⟩
abbrev cX0_ladleNumbered : ByteArray := prog_2_method_6_code
abbrev yX0_ladleNumbered : MethodName := ⟨"HotAisle$Aisle", "ladleNumbered", "(I)LHotAisle$Ladle;"⟩
abbrev cX0_numberOfLadleOn : ByteArray := prog_2_method_7_code
abbrev yX0_numberOfLadleOn : MethodName := ⟨"HotAisle$Aisle", "numberOfLadleOn", "(LHotAisle$Crane;)I"⟩
abbrev cX0_ladleStandingAt : ByteArray := prog_2_method_8_code
abbrev yX0_ladleStandingAt : MethodName := ⟨"HotAisle$Aisle", "ladleStandingAt", "(I)LHotAisle$Ladle;"⟩
abbrev cX0_craneNumbered : ByteArray := prog_2_method_9_code
abbrev yX0_craneNumbered : MethodName := ⟨"HotAisle$Aisle", "craneNumbered", "(I)LHotAisle$Crane;"⟩
abbrev cX0_hasOrders : ByteArray := prog_2_method_10_code
abbrev yX0_hasOrders : MethodName := ⟨"HotAisle$Aisle", "hasOrders", "()Z"⟩
abbrev cX0_stuffAt : ByteArray := prog_2_method_11_code
abbrev yX0_stuffAt : MethodName := ⟨"HotAisle$Aisle", "stuffAt", "(II)I"⟩
abbrev cX0_inVessels : ByteArray := prog_2_method_12_code
abbrev yX0_inVessels : MethodName := ⟨"HotAisle$Aisle", "inVessels", "(I)I"⟩
abbrev cX0_inLadles : ByteArray := prog_2_method_13_code
abbrev yX0_inLadles : MethodName := ⟨"HotAisle$Aisle", "inLadles", "(I)I"⟩
abbrev cX0_inSkulls : ByteArray := prog_2_method_14_code
abbrev yX0_inSkulls : MethodName := ⟨"HotAisle$Aisle", "inSkulls", "(I)I"⟩
abbrev cX0_passMinute : ByteArray := prog_2_method_15_code
abbrev yX0_passMinute : MethodName := ⟨"HotAisle$Aisle", "passMinute", "()V"⟩
abbrev cX0_feedFurnace : ByteArray := prog_2_method_16_code
abbrev yX0_feedFurnace : MethodName := ⟨"HotAisle$Aisle", "feedFurnace", "()V"⟩
abbrev cX0_feed : ByteArray := prog_2_method_17_code
abbrev yX0_feed : MethodName := ⟨"HotAisle$Aisle", "feed", "(II)V"⟩
abbrev cX0_blowVessels : ByteArray := prog_2_method_18_code
abbrev yX0_blowVessels : MethodName := ⟨"HotAisle$Aisle", "blowVessels", "()V"⟩
abbrev cX0_blowParts : ByteArray := prog_2_method_19_code
abbrev yX0_blowParts : MethodName := ⟨"HotAisle$Aisle", "blowParts", "(LHotAisle$Vessel;)V"⟩
abbrev cX0_burn : ByteArray := prog_2_method_20_code
abbrev yX0_burn : MethodName := ⟨"HotAisle$Aisle", "burn", "(LHotAisle$Vessel;II)V"⟩
abbrev cX0_castAnode : ByteArray := prog_2_method_21_code
abbrev yX0_castAnode : MethodName := ⟨"HotAisle$Aisle", "castAnode", "()V"⟩
abbrev cX0_work : ByteArray := prog_2_method_22_code
abbrev yX0_work : MethodName := ⟨"HotAisle$Aisle", "work", "(LHotAisle$Crane;LHotAisle$Crane;)V"⟩
abbrev cX0_finishFirst : ByteArray := prog_2_method_23_code
abbrev yX0_finishFirst : MethodName := ⟨"HotAisle$Aisle", "finishFirst", "(LHotAisle$Crane;)V"⟩
abbrev cX0_stepOrWait : ByteArray := prog_2_method_24_code
abbrev yX0_stepOrWait : MethodName := ⟨"HotAisle$Aisle", "stepOrWait", "(LHotAisle$Crane;LHotAisle$Crane;)V"⟩
abbrev cX0_isCarriedOut : ByteArray := prog_2_method_25_code
abbrev yX0_isCarriedOut : MethodName := ⟨"HotAisle$Aisle", "isCarriedOut", "(LHotAisle$Crane;)Z"⟩
abbrev cX0_take : ByteArray := prog_2_method_26_code
abbrev yX0_take : MethodName := ⟨"HotAisle$Aisle", "take", "(LHotAisle$Crane;)Z"⟩
abbrev cX0_set : ByteArray := prog_2_method_27_code
abbrev yX0_set : MethodName := ⟨"HotAisle$Aisle", "set", "(LHotAisle$Ladle;)Z"⟩
abbrev cX0_tap : ByteArray := prog_2_method_28_code
abbrev yX0_tap : MethodName := ⟨"HotAisle$Aisle", "tap", "(LHotAisle$Ladle;)Z"⟩
abbrev cX0_tapStuff : ByteArray := prog_2_method_29_code
abbrev yX0_tapStuff : MethodName := ⟨"HotAisle$Aisle", "tapStuff", "(LHotAisle$Ladle;II)V"⟩
abbrev cX0_pour : ByteArray := prog_2_method_30_code
abbrev yX0_pour : MethodName := ⟨"HotAisle$Aisle", "pour", "(LHotAisle$Ladle;LHotAisle$Vessel;)Z"⟩
abbrev cX0_canPour : ByteArray := prog_2_method_31_code
abbrev yX0_canPour : MethodName := ⟨"HotAisle$Aisle", "canPour", "(LHotAisle$Ladle;LHotAisle$Vessel;I)Z"⟩
abbrev cX0_skim : ByteArray := prog_2_method_32_code
abbrev yX0_skim : MethodName := ⟨"HotAisle$Aisle", "skim", "(LHotAisle$Ladle;LHotAisle$Vessel;)Z"⟩
abbrev cX0_draw : ByteArray := prog_2_method_33_code
abbrev yX0_draw : MethodName := ⟨"HotAisle$Aisle", "draw", "(LHotAisle$Ladle;LHotAisle$Vessel;)Z"⟩
abbrev cX0_clean : ByteArray := prog_2_method_34_code
abbrev yX0_clean : MethodName := ⟨"HotAisle$Aisle", "clean", "(LHotAisle$Ladle;)Z"⟩
def TX1 : u_T := fun k => match k with
  | 0 => ("HotAisle$Books", "pot", "LHotAisle$Stuff;", true)
  | 1 => ("HotAisle$Books", "givenBack", "LHotAisle$Stuff;", true)
  | 2 => ("HotAisle$Books", "cleanedOff", "LHotAisle$Stuff;", true)
  | 3 => ("HotAisle$Books", "cameIn", "LHotAisle$Stuff;", true)
  | 4 => ("HotAisle$Books", "becameOther", "LHotAisle$Stuff;", true)
  | 5 => ("HotAisle$Books", "cameOfOthers", "LHotAisle$Stuff;", true)
  | 6 => ("HotAisle$Books", "minutesPassed", "I", false)
  | 7 => ("HotAisle$Books", "gasOfMinute", "I", false)
  | 8 => ("HotAisle$Books", "anodes", "I", false)
  | 9 => ("HotAisle$Books", "starved", "I", false)
  | 10 => ("HotAisle$Books", "fullMinutes", "I", false)
  | _ => ("HotAisle$Books", "ordersDone", "I", false)
def tyX1 : Nat → FieldType := fun k => match k with
  | 0 => .object "HotAisle$Stuff"
  | 1 => .object "HotAisle$Stuff"
  | 2 => .object "HotAisle$Stuff"
  | 3 => .object "HotAisle$Stuff"
  | 4 => .object "HotAisle$Stuff"
  | 5 => .object "HotAisle$Stuff"
  | 6 => .int
  | 7 => .int
  | 8 => .int
  | 9 => .int
  | 10 => .int
  | _ => .int
theorem nmX1 : ∀ a, a < 12 → ∀ b, b < 12 → a ≠ b → (TX1 a).2.1 ≠ (TX1 b).2.1 := by decide +kernel
theorem tyX1_ok : ∀ k, k < 12 → parseFieldDescriptor (TX1 k).2.2.1 = some (tyX1 k) := by decide +kernel
abbrev cX1_init : ByteArray := prog_3_method_1_code
abbrev yX1_init : MethodName := ⟨"HotAisle$Books", "<init>", "()V"⟩
abbrev cX1_answer : ByteArray := prog_3_method_2_code
abbrev yX1_answer : MethodName := ⟨"HotAisle$Books", "answer", "(I)I"⟩
abbrev cX1_copyFrom : ByteArray := prog_3_method_3_code
abbrev yX1_copyFrom : MethodName := ⟨"HotAisle$Books", "copyFrom", "(LHotAisle$Books;)V"⟩
def TX2 : u_T := fun k => match k with
  | 0 => ("HotAisle$Crane", "number", "I", true)
  | 1 => ("HotAisle$Crane", "whats", "[I", true)
  | 2 => ("HotAisle$Crane", "targets", "[I", true)
  | 3 => ("HotAisle$Crane", "place", "I", false)
  | 4 => ("HotAisle$Crane", "orders", "I", false)
  | _ => ("HotAisle$Crane", "waits", "I", false)
def tyX2 : Nat → FieldType := fun k => match k with
  | 0 => .int
  | 1 => .array .int
  | 2 => .array .int
  | 3 => .int
  | 4 => .int
  | _ => .int
theorem nmX2 : ∀ a, a < 6 → ∀ b, b < 6 → a ≠ b → (TX2 a).2.1 ≠ (TX2 b).2.1 := by decide +kernel
theorem tyX2_ok : ∀ k, k < 6 → parseFieldDescriptor (TX2 k).2.2.1 = some (tyX2 k) := by decide +kernel
abbrev cX2_init : ByteArray := prog_4_method_1_code
abbrev yX2_init : MethodName := ⟨"HotAisle$Crane", "<init>", "(II)V"⟩
abbrev cX2_answer : ByteArray := prog_4_method_2_code
abbrev yX2_answer : MethodName := ⟨"HotAisle$Crane", "answer", "(I)I"⟩
abbrev cX2_firstWhat : ByteArray := prog_4_method_3_code
abbrev yX2_firstWhat : MethodName := ⟨"HotAisle$Crane", "firstWhat", "()I"⟩
abbrev cX2_goesWhereItIs : ByteArray := prog_4_method_4_code
abbrev yX2_goesWhereItIs : MethodName := ⟨"HotAisle$Crane", "goesWhereItIs", "()Z"⟩
abbrev cX2_nextPlace : ByteArray := prog_4_method_5_code
abbrev yX2_nextPlace : MethodName := ⟨"HotAisle$Crane", "nextPlace", "()I"⟩
abbrev cX2_addOrder : ByteArray := prog_4_method_6_code
abbrev yX2_addOrder : MethodName := ⟨"HotAisle$Crane", "addOrder", "(II)Z"⟩
abbrev cX2_removeFirst : ByteArray := prog_4_method_7_code
abbrev yX2_removeFirst : MethodName := ⟨"HotAisle$Crane", "removeFirst", "()V"⟩
abbrev cX2_copyFrom : ByteArray := prog_4_method_8_code
abbrev yX2_copyFrom : MethodName := ⟨"HotAisle$Crane", "copyFrom", "(LHotAisle$Crane;)V"⟩
def TX3 : u_T := fun k => match k with
  | 0 => ("HotAisle$Ladle", "stuff", "LHotAisle$Stuff;", true)
  | 1 => ("HotAisle$Ladle", "skull", "LHotAisle$Stuff;", true)
  | 2 => ("HotAisle$Ladle", "place", "I", false)
  | 3 => ("HotAisle$Ladle", "carrier", "I", false)
  | _ => ("HotAisle$Ladle", "sort", "I", false)
def tyX3 : Nat → FieldType := fun k => match k with
  | 0 => .object "HotAisle$Stuff"
  | 1 => .object "HotAisle$Stuff"
  | 2 => .int
  | 3 => .int
  | _ => .int
theorem nmX3 : ∀ a, a < 5 → ∀ b, b < 5 → a ≠ b → (TX3 a).2.1 ≠ (TX3 b).2.1 := by decide +kernel
theorem tyX3_ok : ∀ k, k < 5 → parseFieldDescriptor (TX3 k).2.2.1 = some (tyX3 k) := by decide +kernel
abbrev cX3_init : ByteArray := prog_5_method_1_code
abbrev yX3_init : MethodName := ⟨"HotAisle$Ladle", "<init>", "(I)V"⟩
abbrev cX3_answer : ByteArray := prog_5_method_2_code
abbrev yX3_answer : MethodName := ⟨"HotAisle$Ladle", "answer", "(I)I"⟩
abbrev cX3_room : ByteArray := prog_5_method_3_code
abbrev yX3_room : MethodName := ⟨"HotAisle$Ladle", "room", "()I"⟩
abbrev cX3_stuffThatFreezes : ByteArray := prog_5_method_4_code
abbrev yX3_stuffThatFreezes : MethodName := ⟨"HotAisle$Ladle", "stuffThatFreezes", "()I"⟩
abbrev cX3_freeze : ByteArray := prog_5_method_5_code
abbrev yX3_freeze : MethodName := ⟨"HotAisle$Ladle", "freeze", "(I)V"⟩
abbrev cX3_empty : ByteArray := prog_5_method_6_code
abbrev yX3_empty : MethodName := ⟨"HotAisle$Ladle", "empty", "()V"⟩
abbrev cX3_copyFrom : ByteArray := prog_5_method_7_code
abbrev yX3_copyFrom : MethodName := ⟨"HotAisle$Ladle", "copyFrom", "(LHotAisle$Ladle;)V"⟩
def TX4 : u_T := fun k => match k with
  | 0 => ("HotAisle$Stuff", "copper", "I", false)
  | 1 => ("HotAisle$Stuff", "iron", "I", false)
  | 2 => ("HotAisle$Stuff", "sulphur", "I", false)
  | _ => ("HotAisle$Stuff", "slag", "I", false)
def tyX4 : Nat → FieldType := fun k => match k with
  | 0 => .int
  | 1 => .int
  | 2 => .int
  | _ => .int
theorem nmX4 : ∀ a, a < 4 → ∀ b, b < 4 → a ≠ b → (TX4 a).2.1 ≠ (TX4 b).2.1 := by decide +kernel
theorem tyX4_ok : ∀ k, k < 4 → parseFieldDescriptor (TX4 k).2.2.1 = some (tyX4 k) := by decide +kernel
abbrev cX4_init : ByteArray := prog_6_method_1_code
abbrev yX4_init : MethodName := ⟨"HotAisle$Stuff", "<init>", "()V"⟩
abbrev cX4_of : ByteArray := prog_6_method_2_code
abbrev yX4_of : MethodName := ⟨"HotAisle$Stuff", "of", "(I)I"⟩
abbrev cX4_add : ByteArray := prog_6_method_3_code
abbrev yX4_add : MethodName := ⟨"HotAisle$Stuff", "add", "(II)V"⟩
abbrev cX4_all : ByteArray := prog_6_method_4_code
abbrev yX4_all : MethodName := ⟨"HotAisle$Stuff", "all", "()I"⟩
abbrev cX4_addAll : ByteArray := prog_6_method_5_code
abbrev yX4_addAll : MethodName := ⟨"HotAisle$Stuff", "addAll", "(LHotAisle$Stuff;)V"⟩
abbrev cX4_clear : ByteArray := prog_6_method_6_code
abbrev yX4_clear : MethodName := ⟨"HotAisle$Stuff", "clear", "()V"⟩
abbrev cX4_copyFrom : ByteArray := prog_6_method_7_code
abbrev yX4_copyFrom : MethodName := ⟨"HotAisle$Stuff", "copyFrom", "(LHotAisle$Stuff;)V"⟩
def TX5 : u_T := fun k => match k with
  | 0 => ("HotAisle$Vessel", "place", "I", true)
  | 1 => ("HotAisle$Vessel", "stuff", "LHotAisle$Stuff;", true)
  | 2 => ("HotAisle$Vessel", "heat", "I", false)
  | 3 => ("HotAisle$Vessel", "held", "I", false)
  | 4 => ("HotAisle$Vessel", "stopped", "I", false)
  | _ => ("HotAisle$Vessel", "isBlown", "Z", false)
def tyX5 : Nat → FieldType := fun k => match k with
  | 0 => .int
  | 1 => .object "HotAisle$Stuff"
  | 2 => .int
  | 3 => .int
  | 4 => .int
  | _ => .boolean
theorem nmX5 : ∀ a, a < 6 → ∀ b, b < 6 → a ≠ b → (TX5 a).2.1 ≠ (TX5 b).2.1 := by decide +kernel
theorem tyX5_ok : ∀ k, k < 6 → parseFieldDescriptor (TX5 k).2.2.1 = some (tyX5 k) := by decide +kernel
abbrev cX5_init : ByteArray := prog_7_method_1_code
abbrev yX5_init : MethodName := ⟨"HotAisle$Vessel", "<init>", "(I)V"⟩
abbrev cX5_answer : ByteArray := prog_7_method_2_code
abbrev yX5_answer : MethodName := ⟨"HotAisle$Vessel", "answer", "(I)I"⟩
abbrev cX5_mixHeat : ByteArray := prog_7_method_3_code
abbrev yX5_mixHeat : MethodName := ⟨"HotAisle$Vessel", "mixHeat", "(II)V"⟩
abbrev cX5_isTooColdOrTooHot : ByteArray := prog_7_method_4_code
abbrev yX5_isTooColdOrTooHot : MethodName := ⟨"HotAisle$Vessel", "isTooColdOrTooHot", "()Z"⟩
abbrev cX5_holdsCopperAlone : ByteArray := prog_7_method_5_code
abbrev yX5_holdsCopperAlone : MethodName := ⟨"HotAisle$Vessel", "holdsCopperAlone", "()Z"⟩
abbrev cX5_cool : ByteArray := prog_7_method_6_code
abbrev yX5_cool : MethodName := ⟨"HotAisle$Vessel", "cool", "()V"⟩
abbrev cX5_copyFrom : ByteArray := prog_7_method_7_code
abbrev yX5_copyFrom : MethodName := ⟨"HotAisle$Vessel", "copyFrom", "(LHotAisle$Vessel;)V"⟩
def TX6 : u_T := fun k => match k with
  | 0 => ("HotAisle", "now", "LHotAisle$Aisle;", true)
  | 1 => ("HotAisle", "kept", "[LHotAisle$Aisle;", true)
  | _ => ("HotAisle", "states", "I", false)
def tyX6 : Nat → FieldType := fun k => match k with
  | 0 => .object "HotAisle$Aisle"
  | 1 => .array (.object "HotAisle$Aisle")
  | _ => .int
theorem nmX6 : ∀ a, a < 3 → ∀ b, b < 3 → a ≠ b → (TX6 a).2.1 ≠ (TX6 b).2.1 := by decide +kernel
theorem tyX6_ok : ∀ k, k < 3 → parseFieldDescriptor (TX6 k).2.2.1 = some (tyX6 k) := by decide +kernel
abbrev cX6_init : ByteArray := prog_1_method_1_code
abbrev yX6_init : MethodName := ⟨"HotAisle", "<init>", "()V"⟩
abbrev cX6_fed : ByteArray := prog_1_method_2_code
abbrev yX6_fed : MethodName := ⟨"HotAisle", "fed", "(Z)I"⟩
abbrev cX6_limit : ByteArray := prog_1_method_3_code
abbrev yX6_limit : MethodName := ⟨"HotAisle", "limit", "(I)I"⟩
abbrev cX6_blow : ByteArray := prog_1_method_4_code
abbrev yX6_blow : MethodName := ⟨"HotAisle", "blow", "(IZ)I"⟩
abbrev cX6_cold : ByteArray := prog_1_method_5_code
abbrev yX6_cold : MethodName := ⟨"HotAisle", "cold", "(II)I"⟩
abbrev cX6_order : ByteArray := prog_1_method_6_code
abbrev yX6_order : MethodName := ⟨"HotAisle", "order", "(III)I"⟩
abbrev cX6_drop : ByteArray := prog_1_method_7_code
abbrev yX6_drop : MethodName := ⟨"HotAisle", "drop", "(I)I"⟩
abbrev cX6_minutes : ByteArray := prog_1_method_8_code
abbrev yX6_minutes : MethodName := ⟨"HotAisle", "minutes", "(I)I"⟩
abbrev cX6_until : ByteArray := prog_1_method_9_code
abbrev yX6_until : MethodName := ⟨"HotAisle", "until", "(I)I"⟩
abbrev cX6_crane : ByteArray := prog_1_method_10_code
abbrev yX6_crane : MethodName := ⟨"HotAisle", "crane", "(II)I"⟩
abbrev cX6_ladle : ByteArray := prog_1_method_11_code
abbrev yX6_ladle : MethodName := ⟨"HotAisle", "ladle", "(II)I"⟩
abbrev cX6_vessel : ByteArray := prog_1_method_12_code
abbrev yX6_vessel : MethodName := ⟨"HotAisle", "vessel", "(II)I"⟩
abbrev cX6_book : ByteArray := prog_1_method_13_code
abbrev yX6_book : MethodName := ⟨"HotAisle", "book", "(II)I"⟩
abbrev cX6_count : ByteArray := prog_1_method_14_code
abbrev yX6_count : MethodName := ⟨"HotAisle", "count", "(I)I"⟩
abbrev cX6_keep : ByteArray := prog_1_method_15_code
abbrev yX6_keep : MethodName := ⟨"HotAisle", "keep", "()I"⟩
abbrev cX6_back : ByteArray := prog_1_method_16_code
abbrev yX6_back : MethodName := ⟨"HotAisle", "back", "()I"⟩
abbrev cX6_isBetween : ByteArray := prog_1_method_17_code
abbrev yX6_isBetween : MethodName := ⟨"HotAisle", "isBetween", "(III)Z"⟩
abbrev cX6_oneIf : ByteArray := prog_1_method_18_code
abbrev yX6_oneIf : MethodName := ⟨"HotAisle", "oneIf", "(Z)I"⟩
abbrev cX6_copyRow : ByteArray := prog_1_method_19_code
abbrev yX6_copyRow : MethodName := ⟨"HotAisle", "copyRow", "([I[I)V"⟩
def TX7 : u_T := fun k => match k with
  | 0 => ("HotAisleModel", "st", "[I", true)
  | 1 => ("HotAisleModel", "kept", "[I", true)
  | _ => ("HotAisleModel", "keptMany", "I", false)
def tyX7 : Nat → FieldType := fun k => match k with
  | 0 => .array .int
  | 1 => .array .int
  | _ => .int
theorem nmX7 : ∀ a, a < 3 → ∀ b, b < 3 → a ≠ b → (TX7 a).2.1 ≠ (TX7 b).2.1 := by decide +kernel
theorem tyX7_ok : ∀ k, k < 3 → parseFieldDescriptor (TX7 k).2.2.1 = some (tyX7 k) := by decide +kernel
abbrev cX7_init : ByteArray := prog_9_method_1_code
abbrev yX7_init : MethodName := ⟨"HotAisleModel", "<init>", "()V"⟩
abbrev cX7_in : ByteArray := prog_9_method_2_code
abbrev yX7_in : MethodName := ⟨"HotAisleModel", "in", "(III)Z"⟩
abbrev cX7_fed : ByteArray := prog_9_method_3_code
abbrev yX7_fed : MethodName := ⟨"HotAisleModel", "fed", "(Z)I"⟩
abbrev cX7_limit : ByteArray := prog_9_method_4_code
abbrev yX7_limit : MethodName := ⟨"HotAisleModel", "limit", "(I)I"⟩
abbrev cX7_sum : ByteArray := prog_9_method_5_code
abbrev yX7_sum : MethodName := ⟨"HotAisleModel", "sum", "(I)I"⟩
abbrev cX7_blow : ByteArray := prog_9_method_6_code
abbrev yX7_blow : MethodName := ⟨"HotAisleModel", "blow", "(IZ)I"⟩
abbrev cX7_cold : ByteArray := prog_9_method_7_code
abbrev yX7_cold : MethodName := ⟨"HotAisleModel", "cold", "(II)I"⟩
abbrev cX7_order : ByteArray := prog_9_method_8_code
abbrev yX7_order : MethodName := ⟨"HotAisleModel", "order", "(III)I"⟩
abbrev cX7_drop : ByteArray := prog_9_method_9_code
abbrev yX7_drop : MethodName := ⟨"HotAisleModel", "drop", "(I)I"⟩
abbrev cX7_feeds : ByteArray := prog_9_method_10_code
abbrev yX7_feeds : MethodName := ⟨"HotAisleModel", "feeds", "()V"⟩
abbrev cX7_blows : ByteArray := prog_9_method_11_code
abbrev yX7_blows : MethodName := ⟨"HotAisleModel", "blows", "(I)V"⟩
abbrev cX7_vesselAt : ByteArray := prog_9_method_12_code
abbrev yX7_vesselAt : MethodName := ⟨"HotAisleModel", "vesselAt", "(I)I"⟩
abbrev cX7_isFloor : ByteArray := prog_9_method_13_code
abbrev yX7_isFloor : MethodName := ⟨"HotAisleModel", "isFloor", "(I)Z"⟩
abbrev cX7_standsAt : ByteArray := prog_9_method_14_code
abbrev yX7_standsAt : MethodName := ⟨"HotAisleModel", "standsAt", "(I)I"⟩
abbrev cX7_room : ByteArray := prog_9_method_15_code
abbrev yX7_room : MethodName := ⟨"HotAisleModel", "room", "(I)I"⟩
abbrev cX7_takes : ByteArray := prog_9_method_16_code
abbrev yX7_takes : MethodName := ⟨"HotAisleModel", "takes", "(II)Z"⟩
abbrev cX7_sets : ByteArray := prog_9_method_17_code
abbrev yX7_sets : MethodName := ⟨"HotAisleModel", "sets", "(II)Z"⟩
abbrev cX7_taps : ByteArray := prog_9_method_18_code
abbrev yX7_taps : MethodName := ⟨"HotAisleModel", "taps", "(II)Z"⟩
abbrev cX7_moves : ByteArray := prog_9_method_19_code
abbrev yX7_moves : MethodName := ⟨"HotAisleModel", "moves", "(IIII)V"⟩
abbrev cX7_skulls : ByteArray := prog_9_method_20_code
abbrev yX7_skulls : MethodName := ⟨"HotAisleModel", "skulls", "(II)V"⟩
abbrev cX7_pours : ByteArray := prog_9_method_21_code
abbrev yX7_pours : MethodName := ⟨"HotAisleModel", "pours", "(II)Z"⟩
abbrev cX7_skims : ByteArray := prog_9_method_22_code
abbrev yX7_skims : MethodName := ⟨"HotAisleModel", "skims", "(II)Z"⟩
abbrev cX7_draws : ByteArray := prog_9_method_23_code
abbrev yX7_draws : MethodName := ⟨"HotAisleModel", "draws", "(II)Z"⟩
abbrev cX7_cleans : ByteArray := prog_9_method_24_code
abbrev yX7_cleans : MethodName := ⟨"HotAisleModel", "cleans", "(II)Z"⟩
abbrev cX7_does : ByteArray := prog_9_method_25_code
abbrev yX7_does : MethodName := ⟨"HotAisleModel", "does", "(II)Z"⟩
abbrev cX7_finishes : ByteArray := prog_9_method_26_code
abbrev yX7_finishes : MethodName := ⟨"HotAisleModel", "finishes", "(I)V"⟩
abbrev cX7_goes : ByteArray := prog_9_method_27_code
abbrev yX7_goes : MethodName := ⟨"HotAisleModel", "goes", "(I)V"⟩
abbrev cX7_minute : ByteArray := prog_9_method_28_code
abbrev yX7_minute : MethodName := ⟨"HotAisleModel", "minute", "()V"⟩
abbrev cX7_minutes : ByteArray := prog_9_method_29_code
abbrev yX7_minutes : MethodName := ⟨"HotAisleModel", "minutes", "(I)I"⟩
abbrev cX7_until : ByteArray := prog_9_method_30_code
abbrev yX7_until : MethodName := ⟨"HotAisleModel", "until", "(I)I"⟩
abbrev cX7_crane : ByteArray := prog_9_method_31_code
abbrev yX7_crane : MethodName := ⟨"HotAisleModel", "crane", "(II)I"⟩
abbrev cX7_ladle : ByteArray := prog_9_method_32_code
abbrev yX7_ladle : MethodName := ⟨"HotAisleModel", "ladle", "(II)I"⟩
abbrev cX7_vessel : ByteArray := prog_9_method_33_code
abbrev yX7_vessel : MethodName := ⟨"HotAisleModel", "vessel", "(II)I"⟩
abbrev cX7_several : ByteArray := prog_9_method_34_code
abbrev yX7_several : MethodName := ⟨"HotAisleModel", "several", "(III)I"⟩
abbrev cX7_book : ByteArray := prog_9_method_35_code
abbrev yX7_book : MethodName := ⟨"HotAisleModel", "book", "(II)I"⟩
abbrev cX7_count : ByteArray := prog_9_method_36_code
abbrev yX7_count : MethodName := ⟨"HotAisleModel", "count", "(I)I"⟩
abbrev cX7_keep : ByteArray := prog_9_method_37_code
abbrev yX7_keep : MethodName := ⟨"HotAisleModel", "keep", "()I"⟩
abbrev cX7_back : ByteArray := prog_9_method_38_code
abbrev yX7_back : MethodName := ⟨"HotAisleModel", "back", "()I"⟩
abbrev cJ9_max_7cf53 : ByteArray := prog_10_method_65_code
abbrev yJ9_max_7cf53 : MethodName := ⟨"java/lang/Math", "max", "(II)I"⟩
abbrev cJ9_min_7cf53 : ByteArray := prog_10_method_69_code
abbrev yJ9_min_7cf53 : MethodName := ⟨"java/lang/Math", "min", "(II)I"⟩
abbrev cL_law : ByteArray := code
abbrev yL_law : MethodName := ⟨"HotAisleLaw", "law", "([I)Z"⟩
abbrev vwCl : List vw_C := [("HotAisle$Aisle", TX0, 9), ("HotAisle$Books", TX1, 12), ("HotAisle$Crane", TX2, 6), ("HotAisle$Ladle", TX3, 5), ("HotAisle$Stuff", TX4, 4), ("HotAisle$Vessel", TX5, 6), ("HotAisle", TX6, 3), ("HotAisleModel", TX7, 3)]
end
section
/-! the base: contracts over one world, the frame of a call -/
theorem vP_iff {D : va_G} {cl : List vw_C} {ws : va_W} {H : Heap} : va_P D cl ws H ↔ ∀ x ∈ ws, va_at D cl x H :=
  ⟨fun h x hx => by obtain ⟨k, hk⟩ := List.getElem?_of_mem hx; exact h k x hk, fun h k x hk => h x (List.mem_of_getElem? hk)⟩
theorem vD_iff {A : Nat → Prop} {ws : va_W} : va_D A ws ↔ (ws.map (fun x => x.1)).Nodup ∧ ∀ x ∈ ws, A x.1 := by
  constructor
  · intro h
    refine ⟨?_, fun x hx => by obtain ⟨k, hk⟩ := List.getElem?_of_mem hx; exact h.2 k x hk⟩
    rw [List.Nodup, List.pairwise_iff_getElem]
    intro i j hi hj hij e
    rw [List.length_map] at hi hj
    rw [List.getElem_map, List.getElem_map] at e
    have := h.1 i j ws[i] ws[j] (List.getElem?_eq_getElem hi) (List.getElem?_eq_getElem hj) e
    omega
  · intro h
    refine ⟨fun i j p q hp hq e => ?_, fun k x hk => h.2 x (List.mem_of_getElem? hk)⟩
    have h1 := h.1
    rw [List.Nodup, List.pairwise_iff_getElem] at h1
    obtain ⟨hi, hp⟩ := List.getElem?_eq_some_iff.mp hp
    obtain ⟨hj, hq⟩ := List.getElem?_eq_some_iff.mp hq
    rcases Nat.lt_trichotomy i j with c | c | c
    · exact absurd (show (ws.map (fun x => x.1))[i]'(by rw [List.length_map]; exact hi) = (ws.map (fun x => x.1))[j]'(by rw [List.length_map]; exact hj) by rw [List.getElem_map, List.getElem_map, hp, hq]; exact e) (h1 i j _ _ c)
    · exact c
    · exact absurd (show (ws.map (fun x => x.1))[j]'(by rw [List.length_map]; exact hj) = (ws.map (fun x => x.1))[i]'(by rw [List.length_map]; exact hi) by rw [List.getElem_map, List.getElem_map, hp, hq]; exact e.symm) (h1 j i _ _ c)
theorem vA_iff {ws : va_W} {sz q : Nat} : va_A ws sz q ↔ q ∈ ws.map (fun x => x.1) ∨ sz ≤ q := by
  constructor
  · rintro (⟨k, e, h⟩ | h)
    · exact Or.inl (List.mem_map.mpr ⟨(q, e), List.mem_of_getElem? h, rfl⟩)
    · exact Or.inr h
  · rintro (h | h)
    · obtain ⟨⟨q', e⟩, hx, rfl⟩ := List.mem_map.mp h
      obtain ⟨k, hk⟩ := List.getElem?_of_mem hx
      exact Or.inl ⟨k, e, hk⟩
    · exact Or.inr h
theorem vP_perm {D : va_G} {cl : List vw_C} {ws ws' : va_W} {H : Heap} (h : ws.Perm ws') (hP : va_P D cl ws H) : va_P D cl ws' H :=
  vP_iff.mpr fun x hx => vP_iff.mp hP x (h.mem_iff.mpr hx)
theorem vD_perm {A : Nat → Prop} {ws ws' : va_W} (h : ws.Perm ws') (hD : va_D A ws) : va_D A ws' := by
  obtain ⟨h1, h2⟩ := vD_iff.mp hD
  exact vD_iff.mpr ⟨(h.map _).nodup_iff.mp h1, fun x hx => h2 x (h.mem_iff.mpr hx)⟩
/-- the frame: behind a call the cells that aren't the callee's are as they were -/
theorem frame_app {D : va_G} {cl : List vw_C} {A : Nat → Prop} {L1 W0 L2 W1 : va_W} {H H1 : Heap} (hP : va_P D cl (L1 ++ (W0 ++ L2)) H) (hD : va_D A (L1 ++ (W0 ++ L2)))
    (hk : ∀ q : Nat, q < H.size → ¬ va_A W0 H.size q → H1[q]? = H[q]?) (hF : ∀ q, va_A W0 H.size q → A q) (hP1 : va_P D cl W1 H1) (hD1 : va_D (va_A W0 H.size) W1) :
    va_P D cl (L1 ++ (W1 ++ L2)) H1 ∧ va_D A (L1 ++ (W1 ++ L2)) := by
  rw [vP_iff] at hP hP1
  rw [vD_iff] at hD hD1
  obtain ⟨hn, ha⟩ := hD
  obtain ⟨hn1, ha1⟩ := hD1
  have lt : ∀ x ∈ L1 ++ (W0 ++ L2), x.1 < H.size := fun x hx => (hP x hx).lt
  simp only [List.map_append] at hn
  rw [List.nodup_append] at hn
  obtain ⟨n1, n2, n3⟩ := hn
  rw [List.nodup_append] at n2
  obtain ⟨n4, n5, n6⟩ := n2
  have apart : ∀ x, (x ∈ L1 ∨ x ∈ L2) → ¬ va_A W0 H.size x.1 := by
    intro x hx h
    rcases vA_iff.mp h with h | h
    · rcases hx with hx | hx
      · exact n3 x.1 (List.mem_map.mpr ⟨x, hx, rfl⟩) x.1 (List.mem_append_left _ h) rfl
      · exact n6 x.1 h x.1 (List.mem_map.mpr ⟨x, hx, rfl⟩) rfl
    · have : x.1 < H.size := lt x (by rcases hx with hx | hx <;> simp [hx])
      omega
  refine ⟨vP_iff.mpr fun x hx => ?_, vD_iff.mpr ⟨?_, fun x hx => ?_⟩⟩
  · simp only [List.mem_append] at hx
    rcases hx with hx | hx | hx
    · exact (hP x (by simp [hx])).kept (hk x.1 (lt x (by simp [hx])) (apart x (Or.inl hx)))
    · exact hP1 x hx
    · exact (hP x (by simp [hx])).kept (hk x.1 (lt x (by simp [hx])) (apart x (Or.inr hx)))
  · simp only [List.map_append]
    rw [List.nodup_append]
    refine ⟨n1, List.nodup_append.mpr ⟨hn1, n5, ?_⟩, ?_⟩
    · intro a h1 b h2 e
      subst e
      obtain ⟨x, hx, rfl⟩ := List.mem_map.mp h1
      obtain ⟨y, hy, e⟩ := List.mem_map.mp h2
      exact apart y (Or.inr hy) (by rw [e]; exact ha1 x hx)
    · intro a h1 b h2 e
      subst e
      obtain ⟨y, hy, rfl⟩ := List.mem_map.mp h1
      rcases List.mem_append.mp h2 with h2 | h2
      · obtain ⟨x, hx, e⟩ := List.mem_map.mp h2
        exact apart y (Or.inl hy) (by rw [← e]; exact ha1 x hx)
      · exact n3 y.1 h1 y.1 (List.mem_append_right _ h2) rfl
  · simp only [List.mem_append] at hx
    rcases hx with hx | hx | hx
    · exact ha x (by simp [hx])
    · exact hF _ (ha1 x hx)
    · exact ha x (by simp [hx])
-- the words between nest mates, and of arrays of references
def nwM : List (String × Nat × MethodName × String) := [("HotAisle$Aisle", 11, ⟨"HotAisle$Stuff", "<init>", "()V"⟩, "HotAisle"), ("HotAisle$Aisle", 51, ⟨"HotAisle$Books", "<init>", "()V"⟩, "HotAisle"), ("HotAisle$Books", 11, ⟨"HotAisle$Stuff", "<init>", "()V"⟩, "HotAisle"), ("HotAisle$Vessel", 11, ⟨"HotAisle$Stuff", "<init>", "()V"⟩, "HotAisle"), ("HotAisle$Ladle", 11, ⟨"HotAisle$Stuff", "<init>", "()V"⟩, "HotAisle"), ("HotAisle$Aisle", 87, ⟨"HotAisle", "isBetween", "(III)Z"⟩, "HotAisle"), ("HotAisle$Vessel", 47, ⟨"HotAisle", "isBetween", "(III)Z"⟩, "HotAisle"), ("HotAisle$Vessel", 29, ⟨"HotAisle", "oneIf", "(Z)I"⟩, "HotAisle"), ("HotAisle$Crane", 41, ⟨"HotAisle", "copyRow", "([I[I)V"⟩, "HotAisle")]
def nw (U : State) : Prop := (∀ q ∈ nwM, va_Nw (.methodLinkNest q.1 q.2.1 q.2.2.1 q.2.2.2) U) ∧ va_Nw (.fieldLinkNest "HotAisle$Aisle" 18 "HotAisle" "VESSEL_PLACES" "[I" "HotAisle") U ∧ va_Nw (.fieldLinkNest "HotAisle$Aisle" 28 "HotAisle" "FIRST_LADLE_PLACES" "[I" "HotAisle") U ∧ va_AO "HotAisle$Vessel" U ∧ va_AO "HotAisle$Ladle" U ∧ va_AO "HotAisle$Aisle" U
theorem nw_warm {s U : State} (hW : s.WarmedH U.vm) (h : nw s) : nw U :=
  ⟨fun q hq => va_Nw.warmM hW (h.1 q hq), va_Nw.warmF hW h.2.1, va_Nw.warmF hW h.2.2.1, h.2.2.2.1.moved hW.alike, h.2.2.2.2.1.moved hW.alike, h.2.2.2.2.2.moved hW.alike⟩
theorem nw_same {u U : State} (e : u.vm = U.vm) (h : nw u) : nw U :=
  ⟨fun q hq => va_Nw.same rfl e (h.1 q hq), va_Nw.same rfl e h.2.1, va_Nw.same rfl e h.2.2.1, h.2.2.2.1.moved (e ▸ Vm.Alike.refl u.vm), h.2.2.2.2.1.moved (e ▸ Vm.Alike.refl u.vm), h.2.2.2.2.2.moved (e ▸ Vm.Alike.refl u.vm)⟩
abbrev GG : Type := va_G × (Nat → ClassId)
abbrev tysG (G : GG) : List (ClassId × FieldType) := [(G.2 0, .int), (G.2 1, .object "HotAisle$Vessel"), (G.2 2, .object "HotAisle$Ladle"), (G.2 3, .object "HotAisle$Aisle")]
def Kn (G : GG) (U : State) : Prop := va_K G.1 vwCl (tysG G) U ∧ nw U
def Wo (G : GG) (A : Nat → Prop) (H0 H : Heap) (locs : List Loc) (ws : va_W) : Prop := va_P G.1 vwCl ws H ∧ va_D A ws ∧ va_S A H0 H locs
def Qg (G : GG) (post : Option Value → va_W → Prop) (A : Nat → Prop) : Array Value → State → Outcome → State → Prop := fun _ st oc t => (∃ (v : Option Value) (W1 : va_W), oc = .returned v ∧ post v W1 ∧ va_P G.1 vwCl W1 t.heap ∧ va_D A W1) ∧ va_F A st t
def Ct (l : Launch) (G : GG) (y : MethodName) (cc : ByteArray) (nL : Nat) (ret : Option FieldType) (rm : Room) (args : List Value) (W0 : va_W) (post : Option Value → va_W → Prop) : Prop :=
  ∀ sz : Nat, Met l y (Cond.code y cc nL ret :: bw) rm (va_Pc args (fun U => U.heap.size = sz ∧ va_P G.1 vwCl W0 U.heap ∧ Kn G U ∧ va_D (fun _ => True) W0)) (Qg G post (va_A W0 sz)) rm.cells rm.slots (va_A W0 sz)
def Cx (G : GG) (p : Program) (R : Room) (s : State) (m : MethodId) (args : Array Value) (meth : Method) (c : Code) (own : String) (cc : ByteArray) (nL : Nat) (ret : Option FieldType) (nm : String) (A : Nat → Prop) : Prop :=
  p.tables.exec = Jvm.exec ∧ c.code = cc ∧ c.maxLocals = nL ∧ meth.sig.returnType = ret ∧ meth.locks = false ∧ s.vm.findClass own = some m.cls ∧ (∀ w ∈ bw, w.before args s = true) ∧ meth.name = nm ∧ Kn G s ∧ ∀ q, s.heap.size ≤ q → A q
theorem Ct.mk {l : Launch} {G : GG} {y : MethodName} {cc : ByteArray} {nL : Nat} {ret : Option FieldType} {rm : Room} {args : List Value} {W0 : va_W} {post : Option Value → va_W → Prop} (hy : plainName y.cls = true) (hn : (lg_sl args).length ≤ nL)
    (body : ∀ (p : Program) (e : Env) (s : State) (m : MethodId) (below : List Frame) (meth : Method) (c : Code) (A : Nat → Prop) (H : Heap) (locs : List Loc) (ls : Array Slot), Cx G p rm s m args.toArray meth c y.cls cc nL ret y.name A → Wo G A s.heap H locs W0 → lv_has ls nL (lv_args 0 args) →
      W p l e rm s m args.toArray below meth c H locs 0 0 (MQ below (Qg G post A) args.toArray s rm.cells rm.slots A) (F0 m 0 ls [])) : Ct l G y cc nL ret rm args W0 post := by
  intro sz
  refine Met.ofW (cc := cc) (maxL := nL) (ret := ret) hy rfl ?_
  intro p e s m args' below meth c s₁ B hml hv
  obtain ⟨rfl, hsz, hP, hK, hD0⟩ := hv
  have hts := atoms_spec (ws := Cond.code y cc nL ret :: bw) B.pre
  have hl := lv_entry args (n := nL) hn
  rw [lg_entry_eq]
  subst hsz
  exact body p e s m below meth c (va_A W0 s.heap.size) s.heap [] _ ⟨B.exec, B.bytes, hml, B.returns, B.notSynchronized, findClass_of_methodNamed B.named, fun w hw => hts w (List.mem_cons_of_mem _ hw), (name_of_methodNamed B.named B.method).1, hK, fun q h => Or.inr h⟩ ⟨hP, hD0.self, va_S.rf⟩ hl
section RET
variable {G : GG} {p : Program} {l : Launch} {e : Env} {R : Room} {s : State} {m : MethodId} {args : Array Value} {below : List Frame} {meth : Method} {c : Code} {H : Heap} {locs : List Loc} {cells slots : Nat} {own : String} {cc : ByteArray} {nL : Nat} {ret : Option FieldType} {nm : String} {A : Nat → Prop} {W1 : va_W} {post : Option Value → va_W → Prop} {pc : Nat} {ls : Array Slot}
theorem rt_q {v : Option Value} (wo : Wo G A s.heap H locs W1) (hp : post v W1) : ∀ t : State, t.heap = H → s.WarmedH t.vm → Qg G post A args s (.returned v) t :=
  fun t ht _ => ⟨⟨v, W1, rfl, hp, by rw [ht]; exact wo.1, wo.2.1⟩, wo.2.2.F ht⟩
theorem rt_i {v : Int32} (cx : Cx G p R s m args meth c own cc nL (some .int) nm A) (wo : Wo G A s.heap H locs W1) (hd : decode cc pc = .ok (.ireturn, 1)) (hp : post (some (.int v)) W1) : W p l e R s m args below meth c H locs cells slots (MQ below (Qg G post A) args s cells slots A) (F0 m pc ls [.int v]) :=
  W.iret cx.1 cx.2.1 cx.2.2.2.1 (rt_q wo hp) wo.2.2.2.2 hd cx.2.2.2.2.1
def bi (b : Bool) : Int32 := if b then 1 else 0
theorem bi_nar (b : Bool) : narrow .boolean (.int (bi b)) = .int (bi b) := by cases b <;> rfl
theorem rt_z {b : Bool} (cx : Cx G p R s m args meth c own cc nL (some .boolean) nm A) (wo : Wo G A s.heap H locs W1) (hd : decode cc pc = .ok (.ireturn, 1)) (hp : post (some (.int (bi b))) W1) : W p l e R s m args below meth c H locs cells slots (MQ below (Qg G post A) args s cells slots A) (F0 m pc ls [.int (bi b)]) :=
  W.zret cx.1 cx.2.1 cx.2.2.2.1 (bi_nar b) (rt_q wo hp) wo.2.2.2.2 hd cx.2.2.2.2.1
theorem rt_v (cx : Cx G p R s m args meth c own cc nL none nm A) (wo : Wo G A s.heap H locs W1) (hd : decode cc pc = .ok (.return_, 1)) (hp : post none W1) : W p l e R s m args below meth c H locs cells slots (MQ below (Qg G post A) args s cells slots A) (F0 m pc ls []) :=
  W.vret cx.1 cx.2.1 cx.2.2.2.1 (rt_q wo hp) wo.2.2.2.2 hd cx.2.2.2.2.1
theorem rt_a {C : String} {r : Option Nat} (cx : Cx G p R s m args meth c own cc nL (some (.object C)) nm A) (wo : Wo G A s.heap H locs W1) (hd : decode cc pc = .ok (.areturn, 1)) (hp : post (some (va_rf r)) W1) : W p l e R s m args below meth c H locs cells slots (MQ below (Qg G post A) args s cells slots A) (F0 m pc ls [va_rf r]) :=
  W.aret cx.1 cx.2.1 cx.2.2.2.1 (Or.inl ⟨_, rfl⟩) (by cases r with | none => exact Or.inl rfl | some a => exact Or.inr ⟨a, rfl⟩) (rt_q wo hp) wo.2.2.2.2 hd cx.2.2.2.2.1
end RET
end
section
/-! calls: one rule a kind, with the frame 'fr' around the callee's cells -/
def Fr (fr : va_W → va_W) : Prop := ∃ L1 L2 : va_W, ∀ X, fr X = L1 ++ (X ++ L2)
theorem Fr_id : Fr (fun X => X) := ⟨[], [], fun X => by simp⟩
theorem Fr_cons (x : Nat × va_E) : Fr (fun X => x :: X) := ⟨[x], [], fun X => by simp⟩
def Fx (y : MethodName) (cc : ByteArray) (nL : Nat) (ret : Option FieldType) (n : Nat) : Prop := Cond.code y cc nL ret ∈ bw ∧ Cond.initialized y.cls ∈ bw ∧ (y.cls ≠ "java/lang/invoke/MethodHandle" ∧ y.cls ≠ "java/lang/invoke/VarHandle" ∧ (parseMethodDescriptor y.desc).map (fun d => d.parameters.length) = some n)
theorem gI {y : MethodName} {cc : ByteArray} {nL : Nat} {ret : Option FieldType} (h : Cond.code y cc nL ret ∈ bw) : GoodIn bw (Cond.code y cc nL ret :: bw) := by
  intro w hw
  have : w ∈ bw := by
    rcases List.mem_cons.mp hw with rfl | hw
    · exact h
    · exact hw
  exact ⟨this, good_of_word (bw_good this)⟩
section RUN
variable {G : GG} {p : Program} {l : Launch} {e : Env} {R : Room} {s : State} {m : MethodId} {args : Array Value} {below : List Frame} {meth : Method} {c : Code} {H : Heap} {locs : List Loc} {cells slots : Nat} {own : String} {cc : ByteArray} {nL : Nat} {rt : Option FieldType} {nm : String} {A : Nat → Prop} {W0 : va_W} {post : Option Value → va_W → Prop} {pc : Nat} {ls : Array Slot} {st0 rest : List Value} {Q : State → Prop} {fr : va_W → va_W} {mc ms : Nat}
theorem run_go {a : Array Value} (hfr : Fr fr) (hr : va_Run p l e R s m args below meth c H locs cells slots mc ms (F0 m pc ls st0) rest (Qg G post (va_A W0 H.size) a) (va_A W0 H.size)) (wo : Wo G A s.heap H locs (fr W0)) (hA : ∀ q, s.heap.size ≤ q → A q)
    (kk : ∀ (v : Option Value) (W1 : va_W) (H1 : Heap) (locs1 : List Loc), post v W1 → Wo G A s.heap H1 locs1 (fr W1) → W p l e R s m args below meth c H1 locs1 (cells + mc) (slots + ms) Q (F0 m (pc + 3) ls (v.toList ++ rest))) : W p l e R s m args below meth c H locs cells slots Q (F0 m pc ls st0) := by
  obtain ⟨L1, L2, hfr⟩ := hfr
  obtain ⟨hP, hD, hS⟩ := wo
  rw [hfr] at hP hD
  have hF : ∀ q, va_A W0 H.size q → A q := by
    intro q h
    rcases vA_iff.mp h with h | h
    · obtain ⟨x, hx, rfl⟩ := List.mem_map.mp h
      exact (vD_iff.mp hD).2 x (by simp [hx])
    · exact hA q (Nat.le_trans hS.1 h)
  intro T hT X
  obtain ⟨v, st₀, t, T', L, h0, X', hL, e1, e2, ⟨⟨v', W1, hv, hp, hP1, hD1⟩, hz, hk⟩, st⟩ := hr T hT X
  cases hv
  rw [h0] at hz hk
  have hk' : ∀ q : Nat, q < H.size → ¬ va_A W0 H.size q → T'.heap[q]? = H[q]? := fun q h1 h2 => by rw [e1]; exact hk q h1 h2
  have hj := frame_app hP hD hk' hF (by rw [e1]; exact hP1) hD1
  have hS1 : va_S A s.heap T'.heap (locs ++ L) := ⟨Nat.le_trans hS.1 (by rw [e1]; exact hz), fun q h1 h2 => by rw [e1, hk q (Nat.lt_of_lt_of_le h1 hS.1) (fun z => h2 (hF q z))]; exact hS.2.1 q h1 h2, fun q hq => by
    rcases List.mem_append.mp hq with h | h
    · exact hS.2.2 q h
    · exact hF _ (hL q h)⟩
  obtain ⟨t2, a1, b1⟩ := kk v W1 T'.heap (locs ++ L) hp ⟨by rw [hfr]; exact hj.1, by rw [hfr]; exact hj.2, hS1⟩ T' rfl X'
  exact ⟨t2, st t2 a1, b1⟩
theorem fr_in (hfr : Fr fr) {D : va_G} {cl : List vw_C} (hP : va_P D cl (fr W0) H) : va_P D cl W0 H := by
  obtain ⟨L1, L2, hfr⟩ := hfr
  rw [hfr] at hP
  exact vP_iff.mpr fun x hx => vP_iff.mp hP x (by simp [hx])
theorem fr_inD (hfr : Fr fr) {B : Nat → Prop} (hD : va_D B (fr W0)) : va_D (fun _ => True) W0 := by
  obtain ⟨L1, L2, hfr⟩ := hfr
  rw [hfr] at hD
  have h := vD_iff.mp hD
  refine vD_iff.mpr ⟨?_, fun _ _ => trivial⟩
  have h1 := h.1
  simp only [List.map_append] at h1
  exact (List.nodup_append.mp (List.nodup_append.mp h1).2.1).1
variable {y : MethodName} {cb : ByteArray} {nb : Nat} {ret : Option FieldType} {rmb : Room} {b : Addr} {As : List Value} {idx n : Nat} {host : String}
theorem pre_bl {argl : List Value} {sz : Nat} : FrameBlind (va_Pc argl (fun U => U.heap.size = sz ∧ va_P G.1 vwCl W0 U.heap ∧ Kn G U ∧ va_D (fun _ => True) W0)) :=
  fun a U g mk q => ⟨q.1, q.2.1, q.2.2.1, ⟨va_K.moved (u := U) (U := U.calling g mk a) (Vm.Alike.refl U.vm) q.2.2.2.1.1, nw_same rfl q.2.2.2.1.2⟩, q.2.2.2.2⟩
theorem pre_U {argl : List Value} (hfr : Fr fr) (kn : Kn G s) (wo : Wo G A s.heap H locs (fr W0)) : ∀ U : State, U.heap = H → s.WarmedH U.vm → va_Pc argl (fun U => U.heap.size = H.size ∧ va_P G.1 vwCl W0 U.heap ∧ Kn G U ∧ va_D (fun _ => True) W0) argl.toArray U :=
  fun U hU hW => ⟨rfl, by rw [hU], by rw [hU]; exact fr_in hfr wo.1, ⟨va_K.moved hW.alike kn.1, nw_warm hW kn.2⟩, fr_inD hfr wo.2.1⟩
theorem call_V {k ci : Nat} {fs : List Value} {q : vw_C} (fr : va_W → va_W) (hfr : Fr fr) (cx : Cx G p R s m args meth c own cc nL rt nm A) (hct : Ct l G y cb nb ret rmb (.ref b :: As) W0 post) (fx : Fx y cb nb ret n) (h1 : Cond.methodLink own idx y ∈ bw) (h2 : Cond.instanceMethod y ∈ bw) (h3 : Cond.selects y.cls y y ∈ bw)
    (hR : rmb.frames + 1 ≤ R.frames ∧ 8 + (nb + 11) + rmb.locals ≤ R.locals) (wo : Wo G A s.heap H locs (fr W0)) (hk : W0[k]? = some (b, .inr (ci, fs))) (hq : vwCl[ci]? = some q) (hqc : q.1 = y.cls) (hn : As.length = n) (hls : ls.size = nL) (hst : st0 = As.reverse ++ .ref b :: rest) (hw : (rest.map fun v => v.category).sum ≤ 8)
    (hdg : decode cc pc = .ok (.invokevirtual idx, 3)) (hf : cells + rmb.cells ≤ R.cells ∧ slots + rmb.slots ≤ R.slots)
    (kk : ∀ (v : Option Value) (W1 : va_W) (H1 : Heap) (locs1 : List Loc), post v W1 → Wo G A s.heap H1 locs1 (fr W1) → W p l e R s m args below meth c H1 locs1 (cells + rmb.cells) (slots + rmb.slots) Q (F0 m (pc + 3) ls (v.toList ++ rest))) : W p l e R s m args below meth c H locs cells slots Q (F0 m pc ls st0) := by
  obtain ⟨hx, hb, hml, hr, hlo, hown, hts, hnm, kn, hA⟩ := cx
  obtain ⟨f1, f2, f3⟩ := fx
  refine run_go hfr (va_runV (As := As) (rest := rest) (b := b) ⟨hx, hb, hml, hown, hts⟩ (hct H.size) ⟨callB_of n hts (gI f1) rfl rfl rfl (hts _ f2) (hts _ h1) f3 hR, hts _ h2, hts _ h3⟩ ⟨pre_bl, ?_, pre_U hfr kn wo⟩ rfl hn hls hst (lv_room hw) hdg hf) wo hA kk
  have := va_recv kn.1 (fr_in hfr wo.1) hq hk
  rw [hqc] at this
  exact this
theorem call_S (fr : va_W → va_W) (hfr : Fr fr) (cx : Cx G p R s m args meth c own cc nL rt nm A) (hct : Ct l G y cb nb ret rmb As W0 post) (fx : Fx y cb nb ret n) (h1 : Cond.methodLink own idx y ∈ bw) (h2 : Cond.static y ∈ bw)
    (hR : rmb.frames + 1 ≤ R.frames ∧ 8 + (nb + 11) + rmb.locals ≤ R.locals) (wo : Wo G A s.heap H locs (fr W0)) (hn : As.length = n) (hls : ls.size = nL) (hst : st0 = As.reverse ++ rest) (hw : (rest.map fun v => v.category).sum ≤ 8)
    (hdg : decode cc pc = .ok (.invokestatic idx, 3)) (hf : cells + rmb.cells ≤ R.cells ∧ slots + rmb.slots ≤ R.slots)
    (kk : ∀ (v : Option Value) (W1 : va_W) (H1 : Heap) (locs1 : List Loc), post v W1 → Wo G A s.heap H1 locs1 (fr W1) → W p l e R s m args below meth c H1 locs1 (cells + rmb.cells) (slots + rmb.slots) Q (F0 m (pc + 3) ls (v.toList ++ rest))) : W p l e R s m args below meth c H locs cells slots Q (F0 m pc ls st0) := by
  obtain ⟨hx, hb, hml, hr, hlo, hown, hts, hnm, kn, hA⟩ := cx
  obtain ⟨f1, f2, f3⟩ := fx
  exact run_go hfr (va_runS (As := As) (rest := rest) ⟨hx, hb, hml, hown, hts⟩ (hct H.size) ⟨callB_of n hts (gI f1) rfl rfl rfl (hts _ f2) (hts _ h1) f3 hR, hts _ h2⟩ ⟨pre_bl, pre_U hfr kn wo⟩ rfl hn hls hst (lv_room hw) hdg hf) wo hA kk
theorem call_SN (fr : va_W → va_W) (hfr : Fr fr) (cx : Cx G p R s m args meth c own cc nL rt nm A) (hct : Ct l G y cb nb ret rmb As W0 post) (fx : Fx y cb nb ret n) (h1 : (own, idx, y, host) ∈ nwM) (h2 : Cond.static y ∈ bw)
    (hR : rmb.frames + 1 ≤ R.frames ∧ 8 + (nb + 11) + rmb.locals ≤ R.locals) (wo : Wo G A s.heap H locs (fr W0)) (hn : As.length = n) (hls : ls.size = nL) (hst : st0 = As.reverse ++ rest) (hw : (rest.map fun v => v.category).sum ≤ 8)
    (hdg : decode cc pc = .ok (.invokestatic idx, 3)) (hf : cells + rmb.cells ≤ R.cells ∧ slots + rmb.slots ≤ R.slots)
    (kk : ∀ (v : Option Value) (W1 : va_W) (H1 : Heap) (locs1 : List Loc), post v W1 → Wo G A s.heap H1 locs1 (fr W1) → W p l e R s m args below meth c H1 locs1 (cells + rmb.cells) (slots + rmb.slots) Q (F0 m (pc + 3) ls (v.toList ++ rest))) : W p l e R s m args below meth c H locs cells slots Q (F0 m pc ls st0) := by
  obtain ⟨hx, hb, hml, hr, hlo, hown, hts, hnm, kn, hA⟩ := cx
  obtain ⟨f1, f2, f3⟩ := fx
  exact run_go hfr (va_runSN (As := As) (rest := rest) ⟨hx, hb, hml, hown, hts⟩ (hct H.size) ⟨va_cnB n hts (gI f1) rfl rfl rfl (kn.2.1 _ h1) (hts _ f2) f3 hR, hts _ h2, trivial⟩ ⟨pre_bl, pre_U hfr kn wo⟩ rfl hn hls hst (lv_room hw) hdg hf) wo hA kk
theorem call_I (fr : va_W → va_W) (hfr : Fr fr) (cx : Cx G p R s m args meth c own cc nL rt nm A) (hct : Ct l G y cb nb none rmb (.ref b :: As) W0 post) (fx : Fx y cb nb none n) (h1 : Cond.methodLink own idx y ∈ bw) (h2 : Cond.instanceMethod y ∈ bw) (hy : y.name = "<init>")
    (hR : rmb.frames + 1 ≤ R.frames ∧ 8 + (nb + 11) + rmb.locals ≤ R.locals) (wo : Wo G A s.heap H locs (fr W0)) (hn : As.length = n) (hls : ls.size = nL) (hst : st0 = As.reverse ++ .ref b :: rest) (hw : (rest.map fun v => v.category).sum ≤ 8)
    (hdg : decode cc pc = .ok (.invokespecial idx, 3)) (hf : cells + rmb.cells ≤ R.cells ∧ slots + rmb.slots ≤ R.slots)
    (kk : ∀ (v : Option Value) (W1 : va_W) (H1 : Heap) (locs1 : List Loc), post v W1 → Wo G A s.heap H1 locs1 (fr W1) → W p l e R s m args below meth c H1 locs1 (cells + rmb.cells) (slots + rmb.slots) Q (F0 m (pc + 3) ls (v.toList ++ rest))) : W p l e R s m args below meth c H locs cells slots Q (F0 m pc ls st0) := by
  obtain ⟨hx, hb, hml, hr, hlo, hown, hts, hnm, kn, hA⟩ := cx
  obtain ⟨f1, f2, f3⟩ := fx
  exact run_go hfr (va_runI (As := As) (rest := rest) (b := b) ⟨hx, hb, hml, hown, hts⟩ (hct H.size) ⟨callB_of n hts (gI f1) rfl rfl rfl (hts _ f2) (hts _ h1) f3 hR, hy, hts _ h2⟩ ⟨pre_bl, pre_U hfr kn wo⟩ rfl hn hls hst (lv_room hw) hdg hf) wo hA kk
theorem call_IN (fr : va_W → va_W) (hfr : Fr fr) (cx : Cx G p R s m args meth c own cc nL rt nm A) (hct : Ct l G y cb nb none rmb (.ref b :: As) W0 post) (fx : Fx y cb nb none n) (h1 : (own, idx, y, host) ∈ nwM) (h2 : Cond.instanceMethod y ∈ bw) (hy : y.name = "<init>")
    (hR : rmb.frames + 1 ≤ R.frames ∧ 8 + (nb + 11) + rmb.locals ≤ R.locals) (wo : Wo G A s.heap H locs (fr W0)) (hn : As.length = n) (hls : ls.size = nL) (hst : st0 = As.reverse ++ .ref b :: rest) (hw : (rest.map fun v => v.category).sum ≤ 8)
    (hdg : decode cc pc = .ok (.invokespecial idx, 3)) (hf : cells + rmb.cells ≤ R.cells ∧ slots + rmb.slots ≤ R.slots)
    (kk : ∀ (v : Option Value) (W1 : va_W) (H1 : Heap) (locs1 : List Loc), post v W1 → Wo G A s.heap H1 locs1 (fr W1) → W p l e R s m args below meth c H1 locs1 (cells + rmb.cells) (slots + rmb.slots) Q (F0 m (pc + 3) ls (v.toList ++ rest))) : W p l e R s m args below meth c H locs cells slots Q (F0 m pc ls st0) := by
  obtain ⟨hx, hb, hml, hr, hlo, hown, hts, hnm, kn, hA⟩ := cx
  obtain ⟨f1, f2, f3⟩ := fx
  exact run_go hfr (va_runIN (As := As) (rest := rest) (b := b) ⟨hx, hb, hml, hown, hts⟩ (hct H.size) ⟨va_cnB n hts (gI f1) rfl rfl rfl (kn.2.1 _ h1) (hts _ f2) f3 hR, hy, hts _ h2⟩ ⟨pre_bl, pre_U hfr kn wo⟩ rfl hn hls hst (lv_room hw) hdg hf) wo hA kk
-- small rows
theorem tope {x y : Int32} (h : x = y) (k : W p l e R s m args below meth c H locs cells slots Q (F0 m pc ls (.int y :: rest))) : W p l e R s m args below meth c H locs cells slots Q (F0 m pc ls (.int x :: rest)) := by rw [h]; exact k
theorem topv {x y : Value} (h : x = y) (k : W p l e R s m args below meth c H locs cells slots Q (F0 m pc ls (y :: rest))) : W p l e R s m args below meth c H locs cells slots Q (F0 m pc ls (x :: rest)) := by rw [h]; exact k
theorem if_eq_b {bb : Bool} {off : Int} {tgt : Nat} (hexec : p.tables.exec = Jvm.exec) (hb : c.code = cc) (hdg : decode cc pc = .ok (.ifCond .eq off, 3)) (ht : (pc : Int) + off = (tgt : Int))
    (kf : ¬ bb = true → W p l e R s m args below meth c H locs cells slots Q (F0 m tgt ls rest)) (kt : bb = true → W p l e R s m args below meth c H locs cells slots Q (F0 m (pc + 3) ls rest)) : W p l e R s m args below meth c H locs cells slots Q (F0 m pc ls (.int (bi bb) :: rest)) := by
  cases bb with
  | true => exact lv_if_eq hexec hb hdg ht (fun h => absurd h (by decide)) (fun _ => kt rfl)
  | false => exact lv_if_eq hexec hb hdg ht (fun _ => kf (by decide)) (fun h => absurd (show bi false = 0 from rfl) h)
theorem if_ne_b {bb : Bool} {off : Int} {tgt : Nat} (hexec : p.tables.exec = Jvm.exec) (hb : c.code = cc) (hdg : decode cc pc = .ok (.ifCond .ne off, 3)) (ht : (pc : Int) + off = (tgt : Int))
    (kt : bb = true → W p l e R s m args below meth c H locs cells slots Q (F0 m tgt ls rest)) (kf : ¬ bb = true → W p l e R s m args below meth c H locs cells slots Q (F0 m (pc + 3) ls rest)) : W p l e R s m args below meth c H locs cells slots Q (F0 m pc ls (.int (bi bb) :: rest)) := by
  cases bb with
  | true => exact lv_if_ne hexec hb hdg ht (fun _ => kt rfl) (fun h => absurd (show bi true = 0 from h) (by decide))
  | false => exact lv_if_ne hexec hb hdg ht (fun h => absurd (show bi false = 0 from rfl) h) (fun _ => kf (by decide))
end RUN
theorem ai {x y : Int32} {a b n : Nat} (hx : x = nI a) (hy : y = nI b) (h : a + b = n) : x + y = nI n := by rw [hx, hy, nI_add, h]
theorem mi {x y : Int32} {a b n : Nat} (hx : x = nI a) (hy : y = nI b) (h : a * b = n) : x * y = nI n := by rw [hx, hy, pk_mul, h]
theorem si {x y : Int32} {a b n : Nat} (hx : x = nI a) (hy : y = nI b) (h : b ≤ a) (h2 : a - b = n) : x - y = nI n := by rw [hx, hy, pk_sub h, h2]

/-! the aisle: 35 cells; g holds all its numbers -/
abbrev St : Type := Nat → Int32
def ac (G : GG) (ad : Nat → Nat) (g : St) (j : Nat) : va_E :=
  if j = 12 then .inr (0, [.ref (ad 0), .ref (ad 29), .ref (ad 30), .ref (ad 26), .ref (ad 27), .ref (ad 28), .int (g 48), .int (g 148), .int (g 149)])
  else if j < 19 then .inr (4, [.int (g (4 * j)), .int (g (4 * j + 1)), .int (g (4 * j + 2)), .int (g (4 * j + 3))])
  else if j < 22 then .inr (5, [.int (nI (4 * (j - 19) + 4)), .ref (ad (1 + (j - 19))), .int (g (76 + (j - 19))), .int (g (82 + (j - 19))), .int (g (85 + (j - 19))), .int (g (79 + (j - 19)))])
  else if j < 26 then .inr (3, [.ref (ad (4 + (j - 22))), .ref (ad (8 + (j - 22))), .int (g (88 + (j - 22))), .int (g (92 + (j - 22))), .int (g (96 + (j - 22)))])
  else if j < 28 then .inr (2, [.int (nI (j - 26)), .ref (ad (31 + (j - 26))), .ref (ad (33 + (j - 26))), .int (g (100 + (j - 26))), .int (g (104 + (j - 26))), .int (g (106 + (j - 26)))])
  else if j = 28 then .inr (1, [.ref (ad 13), .ref (ad 14), .ref (ad 15), .ref (ad 16), .ref (ad 17), .ref (ad 18), .int (g 140), .int (g 142), .int (g 143), .int (g 144), .int (g 145), .int (g 146)])
  else if j = 29 then .inl (G.2 1, 3, .inr (.inr (.inr (.inr (fun i => some (ad (19 + i)))))))
  else if j = 30 then .inl (G.2 2, 4, .inr (.inr (.inr (.inr (fun i => some (ad (22 + i)))))))
  else if j < 33 then .inl (G.2 0, 8, .inl (fun i => if i < 8 then g (108 + 16 * (j - 31) + 2 * i) else 0))
  else .inl (G.2 0, 8, .inl (fun i => if i < 8 then g (108 + 16 * (j - 33) + 2 * i + 1) else 0))
def aw (G : GG) (ad : Nat → Nat) (g : St) : va_W := (List.range 35).map (fun j => (ad j, ac G ad g j))
theorem aw_len (G : GG) (ad : Nat → Nat) (g : St) : (aw G ad g).length = 35 := by simp [aw]
theorem aw_at (G : GG) (ad : Nat → Nat) (g : St) {j : Nat} (h : j < 35) : (aw G ad g)[j]? = some (ad j, ac G ad g j) := by
  simp [aw, List.getElem?_map, List.getElem?_range h]
/-- which numbers a cell reads -/
def rd (j i : Nat) : Prop :=
  if j = 12 then i = 48 ∨ i = 148 ∨ i = 149
  else if j < 19 then 4 * j ≤ i ∧ i < 4 * j + 4
  else if j < 22 then i = 76 + (j - 19) ∨ i = 79 + (j - 19) ∨ i = 82 + (j - 19) ∨ i = 85 + (j - 19)
  else if j < 26 then i = 88 + (j - 22) ∨ i = 92 + (j - 22) ∨ i = 96 + (j - 22)
  else if j < 28 then i = 100 + (j - 26) ∨ i = 104 + (j - 26) ∨ i = 106 + (j - 26)
  else if j = 28 then i = 140 ∨ (142 ≤ i ∧ i ≤ 146)
  else if j < 31 then False
  else if j < 33 then 108 + 16 * (j - 31) ≤ i ∧ i < 124 + 16 * (j - 31) ∧ i % 2 = 0
  else 108 + 16 * (j - 33) ≤ i ∧ i < 124 + 16 * (j - 33) ∧ i % 2 = 1
theorem ac_frame (G : GG) (ad : Nat → Nat) {g g' : St} {j : Nat} (h : ∀ i, rd j i → g' i = g i) : ac G ad g' j = ac G ad g j := by
  unfold ac
  unfold rd at h
  by_cases c1 : j = 12
  · simp only [c1, if_true] at h ⊢
    rw [h 48 (by simp), h 148 (by simp), h 149 (by simp)]
  simp only [c1, if_false] at h ⊢
  by_cases c2 : j < 19
  · simp only [c2, if_true] at h ⊢
    rw [h (4 * j) (by omega), h (4 * j + 1) (by omega), h (4 * j + 2) (by omega), h (4 * j + 3) (by omega)]
  simp only [c2, if_false] at h ⊢
  by_cases c3 : j < 22
  · simp only [c3, if_true] at h ⊢
    rw [h (76 + (j - 19)) (by omega), h (79 + (j - 19)) (by omega), h (82 + (j - 19)) (by omega), h (85 + (j - 19)) (by omega)]
  simp only [c3, if_false] at h ⊢
  by_cases c4 : j < 26
  · simp only [c4, if_true] at h ⊢
    rw [h (88 + (j - 22)) (by omega), h (92 + (j - 22)) (by omega), h (96 + (j - 22)) (by omega)]
  simp only [c4, if_false] at h ⊢
  by_cases c5 : j < 28
  · simp only [c5, if_true] at h ⊢
    rw [h (100 + (j - 26)) (by omega), h (104 + (j - 26)) (by omega), h (106 + (j - 26)) (by omega)]
  simp only [c5, if_false] at h ⊢
  by_cases c6 : j = 28
  · simp only [c6, if_true] at h ⊢
    rw [h 140 (by omega), h 142 (by omega), h 143 (by omega), h 144 (by omega), h 145 (by omega), h 146 (by omega)]
  simp only [c6, if_false] at h ⊢
  by_cases c7 : j = 29
  · simp only [c7, if_true]
  simp only [c7, if_false]
  by_cases c8 : j = 30
  · simp only [c8, if_true]
  simp only [c8, if_false]
  have c9 : ¬ j < 31 := by omega
  simp only [c9, if_false] at h
  by_cases ca : j < 33
  · simp only [ca, if_true] at h ⊢
    have : (fun i : Nat => if i < 8 then g' (108 + 16 * (j - 31) + 2 * i) else 0) = (fun i : Nat => if i < 8 then g (108 + 16 * (j - 31) + 2 * i) else 0) := by
      funext i
      by_cases hi : i < 8
      · simp only [hi, if_true]; exact h _ (by omega)
      · simp only [hi, if_false]
    rw [this]
  simp only [ca, if_false] at h ⊢
  have : (fun i : Nat => if i < 8 then g' (108 + 16 * (j - 33) + 2 * i + 1) else 0) = (fun i : Nat => if i < 8 then g (108 + 16 * (j - 33) + 2 * i + 1) else 0) := by
    funext i
    by_cases hi : i < 8
    · simp only [hi, if_true]; exact h _ (by omega)
    · simp only [hi, if_false]
  rw [this]
theorem aw_set (G : GG) (ad : Nat → Nat) {g g' : St} {j : Nat} {e : va_E} (he : ac G ad g' j = e) (hf : ∀ k, k < 35 → k ≠ j → ac G ad g' k = ac G ad g k) : (aw G ad g).set j (ad j, e) = aw G ad g' := by
  refine List.ext_getElem? fun k => ?_
  by_cases hk : k < 35
  · rw [List.getElem?_set]
    by_cases hj : j = k
    · subst hj
      rw [if_pos rfl, if_pos (by rw [aw_len]; exact hk), aw_at G ad g' hk, he]
    · rw [if_neg hj, aw_at G ad g hk, aw_at G ad g' hk, hf k hk (fun q => hj q.symm)]
  · rw [List.getElem?_eq_none (by rw [List.length_set, aw_len]; omega), List.getElem?_eq_none (by rw [aw_len]; omega)]
theorem aw_upd (G : GG) (ad : Nat → Nat) {g : St} {j i : Nat} {x : Int32} {e : va_E} (he : ac G ad (upd g i x) j = e) (hf : ∀ k, k < 35 → k ≠ j → ¬ rd k i) : (aw G ad g).set j (ad j, e) = aw G ad (upd g i x) :=
  aw_set G ad he fun k h1 h2 => ac_frame G ad fun q hq => pk_un (fun z => hf k h1 h2 (z ▸ hq))
theorem fr_set {fr : va_W → va_W} {L1 L2 : va_W} (hfr : ∀ X, fr X = L1 ++ (X ++ L2)) {X : va_W} {j : Nat} (hj : j < X.length) (x : Nat × va_E) : (fr X).set (L1.length + j) x = fr (X.set j x) := by
  rw [hfr, hfr, List.set_append, if_neg (by omega), Nat.add_sub_cancel_left, List.set_append, if_pos hj]
theorem fr_get {fr : va_W → va_W} {L1 L2 : va_W} (hfr : ∀ X, fr X = L1 ++ (X ++ L2)) {X : va_W} {j : Nat} {x : Nat × va_E} (hj : X[j]? = some x) : (fr X)[L1.length + j]? = some x := by
  rw [hfr, List.getElem?_append_right (by omega), Nat.add_sub_cancel_left, List.getElem?_append_left (List.getElem?_eq_some_iff.mp hj).1, hj]
section AW
variable {G : GG} {p : Program} {l : Launch} {e : Env} {R : Room} {s : State} {m : MethodId} {args : Array Value} {below : List Frame} {meth : Method} {c : Code} {H : Heap} {locs : List Loc} {cells slots : Nat} {own : String} {cc : ByteArray} {nL : Nat} {rt : Option FieldType} {nm : String} {A : Nat → Prop} {pc : Nat} {ls : Array Slot} {rest : List Value} {Q : State → Prop} {fr : va_W → va_W} {ad : Nat → Nat} {g : St} {index : Nat} {x : Int32}
theorem gf {X : va_W} {a : Nat} (fr : va_W → va_W) (hfr : Fr fr) (cx : Cx G p R s m args meth c own cc nL rt nm A) (wo : Wo G A s.heap H locs (fr X)) {ci j k N : Nat} {C : String} {T : u_T} {fs : List Value} {v : Value} (he : X[j]? = some (a, .inr (ci, fs))) (hc : vwCl[ci]? = some (C, T, N)) (hk : k < N) (hin : ∀ w ∈ u_ws C T N, w ∈ bw) (hC : (T k).1 = C) (hl : Cond.fieldLink own index C (T k).2.1 (T k).2.2.1 ∈ bw) (hv : fs[k]? = some v) (hdg : decode cc pc = .ok (.getfield index, 3))
    (kk : W p l e R s m args below meth c H locs cells slots Q (F0 m (pc + 3) ls (v :: rest))) : W p l e R s m args below meth c H locs cells slots Q (F0 m pc ls (.ref a :: rest)) := by
  obtain ⟨L1, L2, hfr⟩ := hfr
  exact va_get cx.1 cx.2.1 cx.2.2.2.2.2.2.1 hin cx.2.2.2.2.2.1 cx.2.2.2.2.2.2.2.2.1.1 wo.1 _ (fr_get hfr he) hc k hk (cx.2.2.2.2.2.2.1 _ hl) (fun _ h => by rw [hC] at h; exact h) hv hdg kk
theorem pf {i : Nat} (fr : va_W → va_W) (hfr : Fr fr) (cx : Cx G p R s m args meth c own cc nL rt nm A) (wo : Wo G A s.heap H locs (fr (aw G ad g))) {ci j k N : Nat} {C : String} {T : u_T} {fs : List Value} {ty : FieldType} (hj : j < 35) (he : ac G ad g j = .inr (ci, fs)) (hc : vwCl[ci]? = some (C, T, N)) (hk : k < N) (hin : ∀ w ∈ u_ws C T N, w ∈ bw) (ty0 : Nat → FieldType) (hty : ∀ k, k < N → parseFieldDescriptor (T k).2.2.1 = some (ty0 k)) (hnm : ∀ a, a < N → ∀ b, b < N → a ≠ b → (T a).2.1 ≠ (T b).2.1) (hC : (T k).1 = C) (hl : Cond.fieldLink own index C (T k).2.1 (T k).2.2.1 ∈ bw) (hfin : (T k).2.2.2 = false) (hd : parseFieldDescriptor (T k).2.2.1 = some ty) (hn : narrow ty (.int x) = .int x) (hfit : fits ty (.int x) = true) (hlen : k < fs.length)
    (he' : ac G ad (upd g i x) j = .inr (ci, fs.set k (.int x))) (hf : ∀ k, k < 35 → k ≠ j → ¬ rd k i) (hdg : decode cc pc = .ok (.putfield index, 3))
    (kk : ∀ (H1 : Heap) (locs1 : List Loc) (g1 : St), g1 = upd g i x → Wo G A s.heap H1 locs1 (fr (aw G ad g1)) → W p l e R s m args below meth c H1 locs1 cells slots Q (F0 m (pc + 3) ls rest)) : W p l e R s m args below meth c H locs cells slots Q (F0 m pc ls (.int x :: .ref (ad j) :: rest)) := by
  obtain ⟨L1, L2, hfr⟩ := hfr
  have hat : (aw G ad g)[j]? = some (ad j, .inr (ci, fs)) := by rw [aw_at G ad g hj, he]
  refine va_put cx.1 cx.2.1 cx.2.2.2.2.2.2.1 hin ty0 hty hnm cx.2.2.2.2.2.1 cx.2.2.2.2.2.2.2.2.1.1 wo.1 wo.2.1 wo.2.2 (L1.length + j) (fr_get hfr hat) hc k hk (cx.2.2.2.2.2.2.1 _ hl) (fun _ h => by rw [hC] at h; exact h) hfin hd hn hfit hlen hdg (fun H1 locs1 hP hD hS => ?_)
  rw [fr_set hfr (by rw [aw_len]; exact hj), aw_upd G ad he' hf] at hP hD
  exact kk H1 locs1 _ rfl ⟨hP, hD, hS⟩
theorem ald_i {X : va_W} {a j n N : Nat} {f : St} {i : Int32} (fr : va_W → va_W) (hfr : Fr fr) (cx : Cx G p R s m args meth c own cc nL rt nm A) (wo : Wo G A s.heap H locs (fr X)) (he : X[j]? = some (a, .inl (G.2 0, N, .inl f))) (hi : i = nI n) (hn : n < N) (hN : N < 2 ^ 31) (hdg : decode cc pc = .ok (.iaload, 1))
    (kk : W p l e R s m args below meth c H locs cells slots Q (F0 m (pc + 1) ls (.int (f n) :: rest))) : W p l e R s m args below meth c H locs cells slots Q (F0 m pc ls (.int i :: .ref a :: rest)) := by
  obtain ⟨L1, L2, hfr⟩ := hfr
  subst hi
  refine va_iald cx.1 cx.2.1 cx.2.2.2.2.2.2.2.2.1.1 wo.1 _ 0 (fr_get hfr he) rfl (vp_in_nI hn hN) hdg ?_
  rw [nI_clamp (by omega)]
  exact kk
theorem ald_r {X : va_W} {a j n N t0 : Nat} {cA : ClassId} {C : String} {f : Nat → Option Nat} {i : Int32} (fr : va_W → va_W) (hfr : Fr fr) (cx : Cx G p R s m args meth c own cc nL rt nm A) (wo : Wo G A s.heap H locs (fr X)) (he : X[j]? = some (a, .inl (cA, N, .inr (.inr (.inr (.inr f)))))) (ht : (tysG G)[t0]? = some (cA, .object C)) (hi : i = nI n) (hn : n < N) (hN : N < 2 ^ 31) (hdg : decode cc pc = .ok (.aaload, 1))
    (kk : W p l e R s m args below meth c H locs cells slots Q (F0 m (pc + 1) ls (va_rf (f n) :: rest))) : W p l e R s m args below meth c H locs cells slots Q (F0 m pc ls (.int i :: .ref a :: rest)) := by
  obtain ⟨L1, L2, hfr⟩ := hfr
  subst hi
  refine va_aldq cx.1 cx.2.1 cx.2.2.2.2.2.2.2.2.1.1 wo.1 _ t0 (fr_get hfr he) ht (vp_in_nI hn hN) hdg ?_
  rw [nI_clamp (by omega)]
  exact kk
theorem alen {X : va_W} {a j t0 : Nat} {cA : ClassId} {y : vp_A} {ty : FieldType} {v : Int32} (fr : va_W → va_W) (hfr : Fr fr) (cx : Cx G p R s m args meth c own cc nL rt nm A) (wo : Wo G A s.heap H locs (fr X)) (he : X[j]? = some (a, .inl (cA, y))) (ht : (tysG G)[t0]? = some (cA, ty)) (hv : Int32.ofNat y.1 = v) (hdg : decode cc pc = .ok (.arraylength, 1))
    (kk : W p l e R s m args below meth c H locs cells slots Q (F0 m (pc + 1) ls (.int v :: rest))) : W p l e R s m args below meth c H locs cells slots Q (F0 m pc ls (.ref a :: rest)) := by
  obtain ⟨L1, L2, hfr⟩ := hfr
  exact va_alen cx.1 cx.2.1 cx.2.2.2.2.2.2.2.2.1.1 wo.1 _ t0 (fr_get hfr he) ht hv hdg kk

theorem in_stuff : ∀ w ∈ u_ws "HotAisle$Stuff" TX4 4, w ∈ bw := List.forall_mem_cons.mpr ⟨m_79, List.forall_mem_cons.mpr ⟨m_81, List.forall_mem_cons.mpr ⟨m_83, List.forall_mem_cons.mpr ⟨m_85, fun _ h => absurd h List.not_mem_nil⟩⟩⟩⟩
theorem ac_stuff (G : GG) (ad : Nat → Nat) (g : St) {t : Nat} (ht : t < 19) (hn : t ≠ 12) : ac G ad g (t) = .inr (4, [.int (g (4 * t)), .int (g (4 * t + 1)), .int (g (4 * t + 2)), .int (g (4 * t + 3))]) := by unfold ac; rw [if_neg hn, if_pos ht]
theorem at_stuff (G : GG) (ad : Nat → Nat) (g : St) {t : Nat} (ht : t < 19) (hn : t ≠ 12) : (aw G ad g)[t]? = some (ad (t), .inr (4, [.int (g (4 * t)), .int (g (4 * t + 1)), .int (g (4 * t + 2)), .int (g (4 * t + 3))])) := by rw [aw_at G ad g (by omega), ac_stuff G ad g ht hn]
theorem gf_stuff_copper {t : Nat} (fr : va_W → va_W) (hfr : Fr fr) (cx : Cx G p R s m args meth c own cc nL rt nm A) (wo : Wo G A s.heap H locs (fr (aw G ad g))) (ht : t < 19) (hn : t ≠ 12) (hlk : Cond.fieldLink own index "HotAisle$Stuff" "copper" "I" ∈ bw) (hdg : decode cc pc = .ok (.getfield index, 3)) (kk : W p l e R s m args below meth c H locs cells slots Q (F0 m (pc + 3) ls (.int (g (4 * t)) :: rest))) : W p l e R s m args below meth c H locs cells slots Q (F0 m pc ls (.ref (ad (t)) :: rest)) := gf fr hfr cx wo (at_stuff G ad g ht hn) rfl (k := 0) (by decide) in_stuff rfl hlk rfl hdg kk
theorem pf_stuff_copper {t : Nat} (fr : va_W → va_W) (hfr : Fr fr) (cx : Cx G p R s m args meth c own cc nL rt nm A) (wo : Wo G A s.heap H locs (fr (aw G ad g))) (ht : t < 19) (hn : t ≠ 12) (hlk : Cond.fieldLink own index "HotAisle$Stuff" "copper" "I" ∈ bw) (hdg : decode cc pc = .ok (.putfield index, 3)) (kk : ∀ (H1 : Heap) (locs1 : List Loc) (g1 : St), g1 = upd g (4 * t) x → Wo G A s.heap H1 locs1 (fr (aw G ad g1)) → W p l e R s m args below meth c H1 locs1 cells slots Q (F0 m (pc + 3) ls rest)) : W p l e R s m args below meth c H locs cells slots Q (F0 m pc ls (.int x :: .ref (ad (t)) :: rest)) := pf fr hfr cx wo (j := t) (by omega) (ac_stuff G ad g ht hn) rfl (k := 0) (by decide) in_stuff tyX4 tyX4_ok nmX4 rfl hlk rfl (ty := .int) (by decide +kernel) rfl rfl (Nat.le_of_ble_eq_true rfl) (by rw [ac_stuff G ad _ ht hn]; simp only [upd, List.set]; simp) (fun k h1 h2 => by unfold rd; (repeat' split) <;> first | omega | exact fun z => z) hdg kk
theorem gf_stuff_iron {t : Nat} (fr : va_W → va_W) (hfr : Fr fr) (cx : Cx G p R s m args meth c own cc nL rt nm A) (wo : Wo G A s.heap H locs (fr (aw G ad g))) (ht : t < 19) (hn : t ≠ 12) (hlk : Cond.fieldLink own index "HotAisle$Stuff" "iron" "I" ∈ bw) (hdg : decode cc pc = .ok (.getfield index, 3)) (kk : W p l e R s m args below meth c H locs cells slots Q (F0 m (pc + 3) ls (.int (g (4 * t + 1)) :: rest))) : W p l e R s m args below meth c H locs cells slots Q (F0 m pc ls (.ref (ad (t)) :: rest)) := gf fr hfr cx wo (at_stuff G ad g ht hn) rfl (k := 1) (by decide) in_stuff rfl hlk rfl hdg kk
theorem pf_stuff_iron {t : Nat} (fr : va_W → va_W) (hfr : Fr fr) (cx : Cx G p R s m args meth c own cc nL rt nm A) (wo : Wo G A s.heap H locs (fr (aw G ad g))) (ht : t < 19) (hn : t ≠ 12) (hlk : Cond.fieldLink own index "HotAisle$Stuff" "iron" "I" ∈ bw) (hdg : decode cc pc = .ok (.putfield index, 3)) (kk : ∀ (H1 : Heap) (locs1 : List Loc) (g1 : St), g1 = upd g (4 * t + 1) x → Wo G A s.heap H1 locs1 (fr (aw G ad g1)) → W p l e R s m args below meth c H1 locs1 cells slots Q (F0 m (pc + 3) ls rest)) : W p l e R s m args below meth c H locs cells slots Q (F0 m pc ls (.int x :: .ref (ad (t)) :: rest)) := pf fr hfr cx wo (j := t) (by omega) (ac_stuff G ad g ht hn) rfl (k := 1) (by decide) in_stuff tyX4 tyX4_ok nmX4 rfl hlk rfl (ty := .int) (by decide +kernel) rfl rfl (Nat.le_of_ble_eq_true rfl) (by rw [ac_stuff G ad _ ht hn]; simp only [upd, List.set]; simp) (fun k h1 h2 => by unfold rd; (repeat' split) <;> first | omega | exact fun z => z) hdg kk
theorem gf_stuff_sulphur {t : Nat} (fr : va_W → va_W) (hfr : Fr fr) (cx : Cx G p R s m args meth c own cc nL rt nm A) (wo : Wo G A s.heap H locs (fr (aw G ad g))) (ht : t < 19) (hn : t ≠ 12) (hlk : Cond.fieldLink own index "HotAisle$Stuff" "sulphur" "I" ∈ bw) (hdg : decode cc pc = .ok (.getfield index, 3)) (kk : W p l e R s m args below meth c H locs cells slots Q (F0 m (pc + 3) ls (.int (g (4 * t + 2)) :: rest))) : W p l e R s m args below meth c H locs cells slots Q (F0 m pc ls (.ref (ad (t)) :: rest)) := gf fr hfr cx wo (at_stuff G ad g ht hn) rfl (k := 2) (by decide) in_stuff rfl hlk rfl hdg kk
theorem pf_stuff_sulphur {t : Nat} (fr : va_W → va_W) (hfr : Fr fr) (cx : Cx G p R s m args meth c own cc nL rt nm A) (wo : Wo G A s.heap H locs (fr (aw G ad g))) (ht : t < 19) (hn : t ≠ 12) (hlk : Cond.fieldLink own index "HotAisle$Stuff" "sulphur" "I" ∈ bw) (hdg : decode cc pc = .ok (.putfield index, 3)) (kk : ∀ (H1 : Heap) (locs1 : List Loc) (g1 : St), g1 = upd g (4 * t + 2) x → Wo G A s.heap H1 locs1 (fr (aw G ad g1)) → W p l e R s m args below meth c H1 locs1 cells slots Q (F0 m (pc + 3) ls rest)) : W p l e R s m args below meth c H locs cells slots Q (F0 m pc ls (.int x :: .ref (ad (t)) :: rest)) := pf fr hfr cx wo (j := t) (by omega) (ac_stuff G ad g ht hn) rfl (k := 2) (by decide) in_stuff tyX4 tyX4_ok nmX4 rfl hlk rfl (ty := .int) (by decide +kernel) rfl rfl (Nat.le_of_ble_eq_true rfl) (by rw [ac_stuff G ad _ ht hn]; simp only [upd, List.set]; simp) (fun k h1 h2 => by unfold rd; (repeat' split) <;> first | omega | exact fun z => z) hdg kk
theorem gf_stuff_slag {t : Nat} (fr : va_W → va_W) (hfr : Fr fr) (cx : Cx G p R s m args meth c own cc nL rt nm A) (wo : Wo G A s.heap H locs (fr (aw G ad g))) (ht : t < 19) (hn : t ≠ 12) (hlk : Cond.fieldLink own index "HotAisle$Stuff" "slag" "I" ∈ bw) (hdg : decode cc pc = .ok (.getfield index, 3)) (kk : W p l e R s m args below meth c H locs cells slots Q (F0 m (pc + 3) ls (.int (g (4 * t + 3)) :: rest))) : W p l e R s m args below meth c H locs cells slots Q (F0 m pc ls (.ref (ad (t)) :: rest)) := gf fr hfr cx wo (at_stuff G ad g ht hn) rfl (k := 3) (by decide) in_stuff rfl hlk rfl hdg kk
theorem pf_stuff_slag {t : Nat} (fr : va_W → va_W) (hfr : Fr fr) (cx : Cx G p R s m args meth c own cc nL rt nm A) (wo : Wo G A s.heap H locs (fr (aw G ad g))) (ht : t < 19) (hn : t ≠ 12) (hlk : Cond.fieldLink own index "HotAisle$Stuff" "slag" "I" ∈ bw) (hdg : decode cc pc = .ok (.putfield index, 3)) (kk : ∀ (H1 : Heap) (locs1 : List Loc) (g1 : St), g1 = upd g (4 * t + 3) x → Wo G A s.heap H1 locs1 (fr (aw G ad g1)) → W p l e R s m args below meth c H1 locs1 cells slots Q (F0 m (pc + 3) ls rest)) : W p l e R s m args below meth c H locs cells slots Q (F0 m pc ls (.int x :: .ref (ad (t)) :: rest)) := pf fr hfr cx wo (j := t) (by omega) (ac_stuff G ad g ht hn) rfl (k := 3) (by decide) in_stuff tyX4 tyX4_ok nmX4 rfl hlk rfl (ty := .int) (by decide +kernel) rfl rfl (Nat.le_of_ble_eq_true rfl) (by rw [ac_stuff G ad _ ht hn]; simp only [upd, List.set]; simp) (fun k h1 h2 => by unfold rd; (repeat' split) <;> first | omega | exact fun z => z) hdg kk
theorem in_vessel : ∀ w ∈ u_ws "HotAisle$Vessel" TX5 6, w ∈ bw := List.forall_mem_cons.mpr ⟨m_209, List.forall_mem_cons.mpr ⟨m_211, List.forall_mem_cons.mpr ⟨m_213, List.forall_mem_cons.mpr ⟨m_215, List.forall_mem_cons.mpr ⟨m_217, List.forall_mem_cons.mpr ⟨m_219, fun _ h => absurd h List.not_mem_nil⟩⟩⟩⟩⟩⟩
theorem ac_vessel (G : GG) (ad : Nat → Nat) (g : St) {v : Nat} (hv : v < 3) : ac G ad g (19 + v) = .inr (5, [.int (nI (4 * v + 4)), .ref (ad (1 + v)), .int (g (76 + v)), .int (g (82 + v)), .int (g (85 + v)), .int (g (79 + v))]) := by unfold ac; rw [if_neg (by omega), if_neg (by omega), if_pos (by omega), show 19 + v - 19 = v from by omega]
theorem at_vessel (G : GG) (ad : Nat → Nat) (g : St) {v : Nat} (hv : v < 3) : (aw G ad g)[19 + v]? = some (ad (19 + v), .inr (5, [.int (nI (4 * v + 4)), .ref (ad (1 + v)), .int (g (76 + v)), .int (g (82 + v)), .int (g (85 + v)), .int (g (79 + v))])) := by rw [aw_at G ad g (by omega), ac_vessel G ad g hv]
theorem gf_vessel_place {v : Nat} (fr : va_W → va_W) (hfr : Fr fr) (cx : Cx G p R s m args meth c own cc nL rt nm A) (wo : Wo G A s.heap H locs (fr (aw G ad g))) (hv : v < 3) (hlk : Cond.fieldLink own index "HotAisle$Vessel" "place" "I" ∈ bw) (hdg : decode cc pc = .ok (.getfield index, 3)) (kk : W p l e R s m args below meth c H locs cells slots Q (F0 m (pc + 3) ls (.int (nI (4 * v + 4)) :: rest))) : W p l e R s m args below meth c H locs cells slots Q (F0 m pc ls (.ref (ad (19 + v)) :: rest)) := gf fr hfr cx wo (at_vessel G ad g hv) rfl (k := 0) (by decide) in_vessel rfl hlk rfl hdg kk
theorem gf_vessel_stuff {v : Nat} (fr : va_W → va_W) (hfr : Fr fr) (cx : Cx G p R s m args meth c own cc nL rt nm A) (wo : Wo G A s.heap H locs (fr (aw G ad g))) (hv : v < 3) (hlk : Cond.fieldLink own index "HotAisle$Vessel" "stuff" "LHotAisle$Stuff;" ∈ bw) (hdg : decode cc pc = .ok (.getfield index, 3)) (kk : W p l e R s m args below meth c H locs cells slots Q (F0 m (pc + 3) ls (.ref (ad (1 + v)) :: rest))) : W p l e R s m args below meth c H locs cells slots Q (F0 m pc ls (.ref (ad (19 + v)) :: rest)) := gf fr hfr cx wo (at_vessel G ad g hv) rfl (k := 1) (by decide) in_vessel rfl hlk rfl hdg kk
theorem gf_vessel_heat {v : Nat} (fr : va_W → va_W) (hfr : Fr fr) (cx : Cx G p R s m args meth c own cc nL rt nm A) (wo : Wo G A s.heap H locs (fr (aw G ad g))) (hv : v < 3) (hlk : Cond.fieldLink own index "HotAisle$Vessel" "heat" "I" ∈ bw) (hdg : decode cc pc = .ok (.getfield index, 3)) (kk : W p l e R s m args below meth c H locs cells slots Q (F0 m (pc + 3) ls (.int (g (76 + v)) :: rest))) : W p l e R s m args below meth c H locs cells slots Q (F0 m pc ls (.ref (ad (19 + v)) :: rest)) := gf fr hfr cx wo (at_vessel G ad g hv) rfl (k := 2) (by decide) in_vessel rfl hlk rfl hdg kk
theorem pf_vessel_heat {v : Nat} (fr : va_W → va_W) (hfr : Fr fr) (cx : Cx G p R s m args meth c own cc nL rt nm A) (wo : Wo G A s.heap H locs (fr (aw G ad g))) (hv : v < 3) (hlk : Cond.fieldLink own index "HotAisle$Vessel" "heat" "I" ∈ bw) (hdg : decode cc pc = .ok (.putfield index, 3)) (kk : ∀ (H1 : Heap) (locs1 : List Loc) (g1 : St), g1 = upd g (76 + v) x → Wo G A s.heap H1 locs1 (fr (aw G ad g1)) → W p l e R s m args below meth c H1 locs1 cells slots Q (F0 m (pc + 3) ls rest)) : W p l e R s m args below meth c H locs cells slots Q (F0 m pc ls (.int x :: .ref (ad (19 + v)) :: rest)) := pf fr hfr cx wo (j := 19 + v) (by omega) (ac_vessel G ad g hv) rfl (k := 2) (by decide) in_vessel tyX5 tyX5_ok nmX5 rfl hlk rfl (ty := .int) (by decide +kernel) rfl rfl (Nat.le_of_ble_eq_true rfl) (by rw [ac_vessel G ad _ hv]; simp only [upd, List.set]; simp) (fun k h1 h2 => by unfold rd; (repeat' split) <;> first | omega | exact fun z => z) hdg kk
theorem gf_vessel_held {v : Nat} (fr : va_W → va_W) (hfr : Fr fr) (cx : Cx G p R s m args meth c own cc nL rt nm A) (wo : Wo G A s.heap H locs (fr (aw G ad g))) (hv : v < 3) (hlk : Cond.fieldLink own index "HotAisle$Vessel" "held" "I" ∈ bw) (hdg : decode cc pc = .ok (.getfield index, 3)) (kk : W p l e R s m args below meth c H locs cells slots Q (F0 m (pc + 3) ls (.int (g (82 + v)) :: rest))) : W p l e R s m args below meth c H locs cells slots Q (F0 m pc ls (.ref (ad (19 + v)) :: rest)) := gf fr hfr cx wo (at_vessel G ad g hv) rfl (k := 3) (by decide) in_vessel rfl hlk rfl hdg kk
theorem pf_vessel_held {v : Nat} (fr : va_W → va_W) (hfr : Fr fr) (cx : Cx G p R s m args meth c own cc nL rt nm A) (wo : Wo G A s.heap H locs (fr (aw G ad g))) (hv : v < 3) (hlk : Cond.fieldLink own index "HotAisle$Vessel" "held" "I" ∈ bw) (hdg : decode cc pc = .ok (.putfield index, 3)) (kk : ∀ (H1 : Heap) (locs1 : List Loc) (g1 : St), g1 = upd g (82 + v) x → Wo G A s.heap H1 locs1 (fr (aw G ad g1)) → W p l e R s m args below meth c H1 locs1 cells slots Q (F0 m (pc + 3) ls rest)) : W p l e R s m args below meth c H locs cells slots Q (F0 m pc ls (.int x :: .ref (ad (19 + v)) :: rest)) := pf fr hfr cx wo (j := 19 + v) (by omega) (ac_vessel G ad g hv) rfl (k := 3) (by decide) in_vessel tyX5 tyX5_ok nmX5 rfl hlk rfl (ty := .int) (by decide +kernel) rfl rfl (Nat.le_of_ble_eq_true rfl) (by rw [ac_vessel G ad _ hv]; simp only [upd, List.set]; simp) (fun k h1 h2 => by unfold rd; (repeat' split) <;> first | omega | exact fun z => z) hdg kk
theorem gf_vessel_stopped {v : Nat} (fr : va_W → va_W) (hfr : Fr fr) (cx : Cx G p R s m args meth c own cc nL rt nm A) (wo : Wo G A s.heap H locs (fr (aw G ad g))) (hv : v < 3) (hlk : Cond.fieldLink own index "HotAisle$Vessel" "stopped" "I" ∈ bw) (hdg : decode cc pc = .ok (.getfield index, 3)) (kk : W p l e R s m args below meth c H locs cells slots Q (F0 m (pc + 3) ls (.int (g (85 + v)) :: rest))) : W p l e R s m args below meth c H locs cells slots Q (F0 m pc ls (.ref (ad (19 + v)) :: rest)) := gf fr hfr cx wo (at_vessel G ad g hv) rfl (k := 4) (by decide) in_vessel rfl hlk rfl hdg kk
theorem pf_vessel_stopped {v : Nat} (fr : va_W → va_W) (hfr : Fr fr) (cx : Cx G p R s m args meth c own cc nL rt nm A) (wo : Wo G A s.heap H locs (fr (aw G ad g))) (hv : v < 3) (hlk : Cond.fieldLink own index "HotAisle$Vessel" "stopped" "I" ∈ bw) (hdg : decode cc pc = .ok (.putfield index, 3)) (kk : ∀ (H1 : Heap) (locs1 : List Loc) (g1 : St), g1 = upd g (85 + v) x → Wo G A s.heap H1 locs1 (fr (aw G ad g1)) → W p l e R s m args below meth c H1 locs1 cells slots Q (F0 m (pc + 3) ls rest)) : W p l e R s m args below meth c H locs cells slots Q (F0 m pc ls (.int x :: .ref (ad (19 + v)) :: rest)) := pf fr hfr cx wo (j := 19 + v) (by omega) (ac_vessel G ad g hv) rfl (k := 4) (by decide) in_vessel tyX5 tyX5_ok nmX5 rfl hlk rfl (ty := .int) (by decide +kernel) rfl rfl (Nat.le_of_ble_eq_true rfl) (by rw [ac_vessel G ad _ hv]; simp only [upd, List.set]; simp) (fun k h1 h2 => by unfold rd; (repeat' split) <;> first | omega | exact fun z => z) hdg kk
theorem gf_vessel_isBlown {v : Nat} (fr : va_W → va_W) (hfr : Fr fr) (cx : Cx G p R s m args meth c own cc nL rt nm A) (wo : Wo G A s.heap H locs (fr (aw G ad g))) (hv : v < 3) (hlk : Cond.fieldLink own index "HotAisle$Vessel" "isBlown" "Z" ∈ bw) (hdg : decode cc pc = .ok (.getfield index, 3)) (kk : W p l e R s m args below meth c H locs cells slots Q (F0 m (pc + 3) ls (.int (g (79 + v)) :: rest))) : W p l e R s m args below meth c H locs cells slots Q (F0 m pc ls (.ref (ad (19 + v)) :: rest)) := gf fr hfr cx wo (at_vessel G ad g hv) rfl (k := 5) (by decide) in_vessel rfl hlk rfl hdg kk
theorem pf_vessel_isBlown {v : Nat} (fr : va_W → va_W) (hfr : Fr fr) (cx : Cx G p R s m args meth c own cc nL rt nm A) (wo : Wo G A s.heap H locs (fr (aw G ad g))) (hv : v < 3) (hlk : Cond.fieldLink own index "HotAisle$Vessel" "isBlown" "Z" ∈ bw) (hnr : narrow .boolean (.int x) = .int x) (hft : fits .boolean (.int x) = true) (hdg : decode cc pc = .ok (.putfield index, 3)) (kk : ∀ (H1 : Heap) (locs1 : List Loc) (g1 : St), g1 = upd g (79 + v) x → Wo G A s.heap H1 locs1 (fr (aw G ad g1)) → W p l e R s m args below meth c H1 locs1 cells slots Q (F0 m (pc + 3) ls rest)) : W p l e R s m args below meth c H locs cells slots Q (F0 m pc ls (.int x :: .ref (ad (19 + v)) :: rest)) := pf fr hfr cx wo (j := 19 + v) (by omega) (ac_vessel G ad g hv) rfl (k := 5) (by decide) in_vessel tyX5 tyX5_ok nmX5 rfl hlk rfl (ty := .boolean) (by decide +kernel) hnr hft (Nat.le_of_ble_eq_true rfl) (by rw [ac_vessel G ad _ hv]; simp only [upd, List.set]; simp) (fun k h1 h2 => by unfold rd; (repeat' split) <;> first | omega | exact fun z => z) hdg kk
theorem in_ladle : ∀ w ∈ u_ws "HotAisle$Ladle" TX3 5, w ∈ bw := List.forall_mem_cons.mpr ⟨m_239, List.forall_mem_cons.mpr ⟨m_241, List.forall_mem_cons.mpr ⟨m_243, List.forall_mem_cons.mpr ⟨m_245, List.forall_mem_cons.mpr ⟨m_247, fun _ h => absurd h List.not_mem_nil⟩⟩⟩⟩⟩
theorem ac_ladle (G : GG) (ad : Nat → Nat) (g : St) {d : Nat} (hl : d < 4) : ac G ad g (22 + d) = .inr (3, [.ref (ad (4 + d)), .ref (ad (8 + d)), .int (g (88 + d)), .int (g (92 + d)), .int (g (96 + d))]) := by unfold ac; rw [if_neg (by omega), if_neg (by omega), if_neg (by omega), if_pos (by omega), show 22 + d - 22 = d from by omega]
theorem at_ladle (G : GG) (ad : Nat → Nat) (g : St) {d : Nat} (hl : d < 4) : (aw G ad g)[22 + d]? = some (ad (22 + d), .inr (3, [.ref (ad (4 + d)), .ref (ad (8 + d)), .int (g (88 + d)), .int (g (92 + d)), .int (g (96 + d))])) := by rw [aw_at G ad g (by omega), ac_ladle G ad g hl]
theorem gf_ladle_stuff {d : Nat} (fr : va_W → va_W) (hfr : Fr fr) (cx : Cx G p R s m args meth c own cc nL rt nm A) (wo : Wo G A s.heap H locs (fr (aw G ad g))) (hl : d < 4) (hlk : Cond.fieldLink own index "HotAisle$Ladle" "stuff" "LHotAisle$Stuff;" ∈ bw) (hdg : decode cc pc = .ok (.getfield index, 3)) (kk : W p l e R s m args below meth c H locs cells slots Q (F0 m (pc + 3) ls (.ref (ad (4 + d)) :: rest))) : W p l e R s m args below meth c H locs cells slots Q (F0 m pc ls (.ref (ad (22 + d)) :: rest)) := gf fr hfr cx wo (at_ladle G ad g hl) rfl (k := 0) (by decide) in_ladle rfl hlk rfl hdg kk
theorem gf_ladle_skull {d : Nat} (fr : va_W → va_W) (hfr : Fr fr) (cx : Cx G p R s m args meth c own cc nL rt nm A) (wo : Wo G A s.heap H locs (fr (aw G ad g))) (hl : d < 4) (hlk : Cond.fieldLink own index "HotAisle$Ladle" "skull" "LHotAisle$Stuff;" ∈ bw) (hdg : decode cc pc = .ok (.getfield index, 3)) (kk : W p l e R s m args below meth c H locs cells slots Q (F0 m (pc + 3) ls (.ref (ad (8 + d)) :: rest))) : W p l e R s m args below meth c H locs cells slots Q (F0 m pc ls (.ref (ad (22 + d)) :: rest)) := gf fr hfr cx wo (at_ladle G ad g hl) rfl (k := 1) (by decide) in_ladle rfl hlk rfl hdg kk
theorem gf_ladle_place {d : Nat} (fr : va_W → va_W) (hfr : Fr fr) (cx : Cx G p R s m args meth c own cc nL rt nm A) (wo : Wo G A s.heap H locs (fr (aw G ad g))) (hl : d < 4) (hlk : Cond.fieldLink own index "HotAisle$Ladle" "place" "I" ∈ bw) (hdg : decode cc pc = .ok (.getfield index, 3)) (kk : W p l e R s m args below meth c H locs cells slots Q (F0 m (pc + 3) ls (.int (g (88 + d)) :: rest))) : W p l e R s m args below meth c H locs cells slots Q (F0 m pc ls (.ref (ad (22 + d)) :: rest)) := gf fr hfr cx wo (at_ladle G ad g hl) rfl (k := 2) (by decide) in_ladle rfl hlk rfl hdg kk
theorem pf_ladle_place {d : Nat} (fr : va_W → va_W) (hfr : Fr fr) (cx : Cx G p R s m args meth c own cc nL rt nm A) (wo : Wo G A s.heap H locs (fr (aw G ad g))) (hl : d < 4) (hlk : Cond.fieldLink own index "HotAisle$Ladle" "place" "I" ∈ bw) (hdg : decode cc pc = .ok (.putfield index, 3)) (kk : ∀ (H1 : Heap) (locs1 : List Loc) (g1 : St), g1 = upd g (88 + d) x → Wo G A s.heap H1 locs1 (fr (aw G ad g1)) → W p l e R s m args below meth c H1 locs1 cells slots Q (F0 m (pc + 3) ls rest)) : W p l e R s m args below meth c H locs cells slots Q (F0 m pc ls (.int x :: .ref (ad (22 + d)) :: rest)) := pf fr hfr cx wo (j := 22 + d) (by omega) (ac_ladle G ad g hl) rfl (k := 2) (by decide) in_ladle tyX3 tyX3_ok nmX3 rfl hlk rfl (ty := .int) (by decide +kernel) rfl rfl (Nat.le_of_ble_eq_true rfl) (by rw [ac_ladle G ad _ hl]; simp only [upd, List.set]; simp) (fun k h1 h2 => by unfold rd; (repeat' split) <;> first | omega | exact fun z => z) hdg kk
theorem gf_ladle_carrier {d : Nat} (fr : va_W → va_W) (hfr : Fr fr) (cx : Cx G p R s m args meth c own cc nL rt nm A) (wo : Wo G A s.heap H locs (fr (aw G ad g))) (hl : d < 4) (hlk : Cond.fieldLink own index "HotAisle$Ladle" "carrier" "I" ∈ bw) (hdg : decode cc pc = .ok (.getfield index, 3)) (kk : W p l e R s m args below meth c H locs cells slots Q (F0 m (pc + 3) ls (.int (g (92 + d)) :: rest))) : W p l e R s m args below meth c H locs cells slots Q (F0 m pc ls (.ref (ad (22 + d)) :: rest)) := gf fr hfr cx wo (at_ladle G ad g hl) rfl (k := 3) (by decide) in_ladle rfl hlk rfl hdg kk
theorem pf_ladle_carrier {d : Nat} (fr : va_W → va_W) (hfr : Fr fr) (cx : Cx G p R s m args meth c own cc nL rt nm A) (wo : Wo G A s.heap H locs (fr (aw G ad g))) (hl : d < 4) (hlk : Cond.fieldLink own index "HotAisle$Ladle" "carrier" "I" ∈ bw) (hdg : decode cc pc = .ok (.putfield index, 3)) (kk : ∀ (H1 : Heap) (locs1 : List Loc) (g1 : St), g1 = upd g (92 + d) x → Wo G A s.heap H1 locs1 (fr (aw G ad g1)) → W p l e R s m args below meth c H1 locs1 cells slots Q (F0 m (pc + 3) ls rest)) : W p l e R s m args below meth c H locs cells slots Q (F0 m pc ls (.int x :: .ref (ad (22 + d)) :: rest)) := pf fr hfr cx wo (j := 22 + d) (by omega) (ac_ladle G ad g hl) rfl (k := 3) (by decide) in_ladle tyX3 tyX3_ok nmX3 rfl hlk rfl (ty := .int) (by decide +kernel) rfl rfl (Nat.le_of_ble_eq_true rfl) (by rw [ac_ladle G ad _ hl]; simp only [upd, List.set]; simp) (fun k h1 h2 => by unfold rd; (repeat' split) <;> first | omega | exact fun z => z) hdg kk
theorem gf_ladle_sort {d : Nat} (fr : va_W → va_W) (hfr : Fr fr) (cx : Cx G p R s m args meth c own cc nL rt nm A) (wo : Wo G A s.heap H locs (fr (aw G ad g))) (hl : d < 4) (hlk : Cond.fieldLink own index "HotAisle$Ladle" "sort" "I" ∈ bw) (hdg : decode cc pc = .ok (.getfield index, 3)) (kk : W p l e R s m args below meth c H locs cells slots Q (F0 m (pc + 3) ls (.int (g (96 + d)) :: rest))) : W p l e R s m args below meth c H locs cells slots Q (F0 m pc ls (.ref (ad (22 + d)) :: rest)) := gf fr hfr cx wo (at_ladle G ad g hl) rfl (k := 4) (by decide) in_ladle rfl hlk rfl hdg kk
theorem pf_ladle_sort {d : Nat} (fr : va_W → va_W) (hfr : Fr fr) (cx : Cx G p R s m args meth c own cc nL rt nm A) (wo : Wo G A s.heap H locs (fr (aw G ad g))) (hl : d < 4) (hlk : Cond.fieldLink own index "HotAisle$Ladle" "sort" "I" ∈ bw) (hdg : decode cc pc = .ok (.putfield index, 3)) (kk : ∀ (H1 : Heap) (locs1 : List Loc) (g1 : St), g1 = upd g (96 + d) x → Wo G A s.heap H1 locs1 (fr (aw G ad g1)) → W p l e R s m args below meth c H1 locs1 cells slots Q (F0 m (pc + 3) ls rest)) : W p l e R s m args below meth c H locs cells slots Q (F0 m pc ls (.int x :: .ref (ad (22 + d)) :: rest)) := pf fr hfr cx wo (j := 22 + d) (by omega) (ac_ladle G ad g hl) rfl (k := 4) (by decide) in_ladle tyX3 tyX3_ok nmX3 rfl hlk rfl (ty := .int) (by decide +kernel) rfl rfl (Nat.le_of_ble_eq_true rfl) (by rw [ac_ladle G ad _ hl]; simp only [upd, List.set]; simp) (fun k h1 h2 => by unfold rd; (repeat' split) <;> first | omega | exact fun z => z) hdg kk
theorem in_crane : ∀ w ∈ u_ws "HotAisle$Crane" TX2 6, w ∈ bw := List.forall_mem_cons.mpr ⟨m_113, List.forall_mem_cons.mpr ⟨m_115, List.forall_mem_cons.mpr ⟨m_117, List.forall_mem_cons.mpr ⟨m_119, List.forall_mem_cons.mpr ⟨m_121, List.forall_mem_cons.mpr ⟨m_123, fun _ h => absurd h List.not_mem_nil⟩⟩⟩⟩⟩⟩
theorem ac_crane (G : GG) (ad : Nat → Nat) (g : St) {r : Nat} (hc : r < 2) : ac G ad g (26 + r) = .inr (2, [.int (nI r), .ref (ad (31 + r)), .ref (ad (33 + r)), .int (g (100 + r)), .int (g (104 + r)), .int (g (106 + r))]) := by unfold ac; rw [if_neg (by omega), if_neg (by omega), if_neg (by omega), if_neg (by omega), if_pos (by omega), show 26 + r - 26 = r from by omega]
theorem at_crane (G : GG) (ad : Nat → Nat) (g : St) {r : Nat} (hc : r < 2) : (aw G ad g)[26 + r]? = some (ad (26 + r), .inr (2, [.int (nI r), .ref (ad (31 + r)), .ref (ad (33 + r)), .int (g (100 + r)), .int (g (104 + r)), .int (g (106 + r))])) := by rw [aw_at G ad g (by omega), ac_crane G ad g hc]
theorem gf_crane_number {r : Nat} (fr : va_W → va_W) (hfr : Fr fr) (cx : Cx G p R s m args meth c own cc nL rt nm A) (wo : Wo G A s.heap H locs (fr (aw G ad g))) (hc : r < 2) (hlk : Cond.fieldLink own index "HotAisle$Crane" "number" "I" ∈ bw) (hdg : decode cc pc = .ok (.getfield index, 3)) (kk : W p l e R s m args below meth c H locs cells slots Q (F0 m (pc + 3) ls (.int (nI r) :: rest))) : W p l e R s m args below meth c H locs cells slots Q (F0 m pc ls (.ref (ad (26 + r)) :: rest)) := gf fr hfr cx wo (at_crane G ad g hc) rfl (k := 0) (by decide) in_crane rfl hlk rfl hdg kk
theorem gf_crane_whats {r : Nat} (fr : va_W → va_W) (hfr : Fr fr) (cx : Cx G p R s m args meth c own cc nL rt nm A) (wo : Wo G A s.heap H locs (fr (aw G ad g))) (hc : r < 2) (hlk : Cond.fieldLink own index "HotAisle$Crane" "whats" "[I" ∈ bw) (hdg : decode cc pc = .ok (.getfield index, 3)) (kk : W p l e R s m args below meth c H locs cells slots Q (F0 m (pc + 3) ls (.ref (ad (31 + r)) :: rest))) : W p l e R s m args below meth c H locs cells slots Q (F0 m pc ls (.ref (ad (26 + r)) :: rest)) := gf fr hfr cx wo (at_crane G ad g hc) rfl (k := 1) (by decide) in_crane rfl hlk rfl hdg kk
theorem gf_crane_targets {r : Nat} (fr : va_W → va_W) (hfr : Fr fr) (cx : Cx G p R s m args meth c own cc nL rt nm A) (wo : Wo G A s.heap H locs (fr (aw G ad g))) (hc : r < 2) (hlk : Cond.fieldLink own index "HotAisle$Crane" "targets" "[I" ∈ bw) (hdg : decode cc pc = .ok (.getfield index, 3)) (kk : W p l e R s m args below meth c H locs cells slots Q (F0 m (pc + 3) ls (.ref (ad (33 + r)) :: rest))) : W p l e R s m args below meth c H locs cells slots Q (F0 m pc ls (.ref (ad (26 + r)) :: rest)) := gf fr hfr cx wo (at_crane G ad g hc) rfl (k := 2) (by decide) in_crane rfl hlk rfl hdg kk
theorem gf_crane_place {r : Nat} (fr : va_W → va_W) (hfr : Fr fr) (cx : Cx G p R s m args meth c own cc nL rt nm A) (wo : Wo G A s.heap H locs (fr (aw G ad g))) (hc : r < 2) (hlk : Cond.fieldLink own index "HotAisle$Crane" "place" "I" ∈ bw) (hdg : decode cc pc = .ok (.getfield index, 3)) (kk : W p l e R s m args below meth c H locs cells slots Q (F0 m (pc + 3) ls (.int (g (100 + r)) :: rest))) : W p l e R s m args below meth c H locs cells slots Q (F0 m pc ls (.ref (ad (26 + r)) :: rest)) := gf fr hfr cx wo (at_crane G ad g hc) rfl (k := 3) (by decide) in_crane rfl hlk rfl hdg kk
theorem pf_crane_place {r : Nat} (fr : va_W → va_W) (hfr : Fr fr) (cx : Cx G p R s m args meth c own cc nL rt nm A) (wo : Wo G A s.heap H locs (fr (aw G ad g))) (hc : r < 2) (hlk : Cond.fieldLink own index "HotAisle$Crane" "place" "I" ∈ bw) (hdg : decode cc pc = .ok (.putfield index, 3)) (kk : ∀ (H1 : Heap) (locs1 : List Loc) (g1 : St), g1 = upd g (100 + r) x → Wo G A s.heap H1 locs1 (fr (aw G ad g1)) → W p l e R s m args below meth c H1 locs1 cells slots Q (F0 m (pc + 3) ls rest)) : W p l e R s m args below meth c H locs cells slots Q (F0 m pc ls (.int x :: .ref (ad (26 + r)) :: rest)) := pf fr hfr cx wo (j := 26 + r) (by omega) (ac_crane G ad g hc) rfl (k := 3) (by decide) in_crane tyX2 tyX2_ok nmX2 rfl hlk rfl (ty := .int) (by decide +kernel) rfl rfl (Nat.le_of_ble_eq_true rfl) (by rw [ac_crane G ad _ hc]; simp only [upd, List.set]; simp) (fun k h1 h2 => by unfold rd; (repeat' split) <;> first | omega | exact fun z => z) hdg kk
theorem gf_crane_orders {r : Nat} (fr : va_W → va_W) (hfr : Fr fr) (cx : Cx G p R s m args meth c own cc nL rt nm A) (wo : Wo G A s.heap H locs (fr (aw G ad g))) (hc : r < 2) (hlk : Cond.fieldLink own index "HotAisle$Crane" "orders" "I" ∈ bw) (hdg : decode cc pc = .ok (.getfield index, 3)) (kk : W p l e R s m args below meth c H locs cells slots Q (F0 m (pc + 3) ls (.int (g (104 + r)) :: rest))) : W p l e R s m args below meth c H locs cells slots Q (F0 m pc ls (.ref (ad (26 + r)) :: rest)) := gf fr hfr cx wo (at_crane G ad g hc) rfl (k := 4) (by decide) in_crane rfl hlk rfl hdg kk
theorem pf_crane_orders {r : Nat} (fr : va_W → va_W) (hfr : Fr fr) (cx : Cx G p R s m args meth c own cc nL rt nm A) (wo : Wo G A s.heap H locs (fr (aw G ad g))) (hc : r < 2) (hlk : Cond.fieldLink own index "HotAisle$Crane" "orders" "I" ∈ bw) (hdg : decode cc pc = .ok (.putfield index, 3)) (kk : ∀ (H1 : Heap) (locs1 : List Loc) (g1 : St), g1 = upd g (104 + r) x → Wo G A s.heap H1 locs1 (fr (aw G ad g1)) → W p l e R s m args below meth c H1 locs1 cells slots Q (F0 m (pc + 3) ls rest)) : W p l e R s m args below meth c H locs cells slots Q (F0 m pc ls (.int x :: .ref (ad (26 + r)) :: rest)) := pf fr hfr cx wo (j := 26 + r) (by omega) (ac_crane G ad g hc) rfl (k := 4) (by decide) in_crane tyX2 tyX2_ok nmX2 rfl hlk rfl (ty := .int) (by decide +kernel) rfl rfl (Nat.le_of_ble_eq_true rfl) (by rw [ac_crane G ad _ hc]; simp only [upd, List.set]; simp) (fun k h1 h2 => by unfold rd; (repeat' split) <;> first | omega | exact fun z => z) hdg kk
theorem gf_crane_waits {r : Nat} (fr : va_W → va_W) (hfr : Fr fr) (cx : Cx G p R s m args meth c own cc nL rt nm A) (wo : Wo G A s.heap H locs (fr (aw G ad g))) (hc : r < 2) (hlk : Cond.fieldLink own index "HotAisle$Crane" "waits" "I" ∈ bw) (hdg : decode cc pc = .ok (.getfield index, 3)) (kk : W p l e R s m args below meth c H locs cells slots Q (F0 m (pc + 3) ls (.int (g (106 + r)) :: rest))) : W p l e R s m args below meth c H locs cells slots Q (F0 m pc ls (.ref (ad (26 + r)) :: rest)) := gf fr hfr cx wo (at_crane G ad g hc) rfl (k := 5) (by decide) in_crane rfl hlk rfl hdg kk
theorem pf_crane_waits {r : Nat} (fr : va_W → va_W) (hfr : Fr fr) (cx : Cx G p R s m args meth c own cc nL rt nm A) (wo : Wo G A s.heap H locs (fr (aw G ad g))) (hc : r < 2) (hlk : Cond.fieldLink own index "HotAisle$Crane" "waits" "I" ∈ bw) (hdg : decode cc pc = .ok (.putfield index, 3)) (kk : ∀ (H1 : Heap) (locs1 : List Loc) (g1 : St), g1 = upd g (106 + r) x → Wo G A s.heap H1 locs1 (fr (aw G ad g1)) → W p l e R s m args below meth c H1 locs1 cells slots Q (F0 m (pc + 3) ls rest)) : W p l e R s m args below meth c H locs cells slots Q (F0 m pc ls (.int x :: .ref (ad (26 + r)) :: rest)) := pf fr hfr cx wo (j := 26 + r) (by omega) (ac_crane G ad g hc) rfl (k := 5) (by decide) in_crane tyX2 tyX2_ok nmX2 rfl hlk rfl (ty := .int) (by decide +kernel) rfl rfl (Nat.le_of_ble_eq_true rfl) (by rw [ac_crane G ad _ hc]; simp only [upd, List.set]; simp) (fun k h1 h2 => by unfold rd; (repeat' split) <;> first | omega | exact fun z => z) hdg kk
theorem in_books : ∀ w ∈ u_ws "HotAisle$Books" TX1 12, w ∈ bw := List.forall_mem_cons.mpr ⟨m_162, List.forall_mem_cons.mpr ⟨m_164, List.forall_mem_cons.mpr ⟨m_166, List.forall_mem_cons.mpr ⟨m_168, List.forall_mem_cons.mpr ⟨m_170, List.forall_mem_cons.mpr ⟨m_172, List.forall_mem_cons.mpr ⟨m_174, List.forall_mem_cons.mpr ⟨m_176, List.forall_mem_cons.mpr ⟨m_178, List.forall_mem_cons.mpr ⟨m_180, List.forall_mem_cons.mpr ⟨m_182, List.forall_mem_cons.mpr ⟨m_184, fun _ h => absurd h List.not_mem_nil⟩⟩⟩⟩⟩⟩⟩⟩⟩⟩⟩⟩
theorem ac_books (G : GG) (ad : Nat → Nat) (g : St)  : ac G ad g (28) = .inr (1, [.ref (ad 13), .ref (ad 14), .ref (ad 15), .ref (ad 16), .ref (ad 17), .ref (ad 18), .int (g (140)), .int (g (142)), .int (g (143)), .int (g (144)), .int (g (145)), .int (g (146))]) := rfl
theorem at_books (G : GG) (ad : Nat → Nat) (g : St)  : (aw G ad g)[28]? = some (ad (28), .inr (1, [.ref (ad 13), .ref (ad 14), .ref (ad 15), .ref (ad 16), .ref (ad 17), .ref (ad 18), .int (g (140)), .int (g (142)), .int (g (143)), .int (g (144)), .int (g (145)), .int (g (146))])) := by rw [aw_at G ad g (by decide), ac_books G ad g ]
theorem gf_books_pot (fr : va_W → va_W) (hfr : Fr fr) (cx : Cx G p R s m args meth c own cc nL rt nm A) (wo : Wo G A s.heap H locs (fr (aw G ad g)))  (hlk : Cond.fieldLink own index "HotAisle$Books" "pot" "LHotAisle$Stuff;" ∈ bw) (hdg : decode cc pc = .ok (.getfield index, 3)) (kk : W p l e R s m args below meth c H locs cells slots Q (F0 m (pc + 3) ls (.ref (ad 13) :: rest))) : W p l e R s m args below meth c H locs cells slots Q (F0 m pc ls (.ref (ad (28)) :: rest)) := gf fr hfr cx wo (at_books G ad g ) rfl (k := 0) (by decide) in_books rfl hlk rfl hdg kk
theorem gf_books_givenBack (fr : va_W → va_W) (hfr : Fr fr) (cx : Cx G p R s m args meth c own cc nL rt nm A) (wo : Wo G A s.heap H locs (fr (aw G ad g)))  (hlk : Cond.fieldLink own index "HotAisle$Books" "givenBack" "LHotAisle$Stuff;" ∈ bw) (hdg : decode cc pc = .ok (.getfield index, 3)) (kk : W p l e R s m args below meth c H locs cells slots Q (F0 m (pc + 3) ls (.ref (ad 14) :: rest))) : W p l e R s m args below meth c H locs cells slots Q (F0 m pc ls (.ref (ad (28)) :: rest)) := gf fr hfr cx wo (at_books G ad g ) rfl (k := 1) (by decide) in_books rfl hlk rfl hdg kk
theorem gf_books_cleanedOff (fr : va_W → va_W) (hfr : Fr fr) (cx : Cx G p R s m args meth c own cc nL rt nm A) (wo : Wo G A s.heap H locs (fr (aw G ad g)))  (hlk : Cond.fieldLink own index "HotAisle$Books" "cleanedOff" "LHotAisle$Stuff;" ∈ bw) (hdg : decode cc pc = .ok (.getfield index, 3)) (kk : W p l e R s m args below meth c H locs cells slots Q (F0 m (pc + 3) ls (.ref (ad 15) :: rest))) : W p l e R s m args below meth c H locs cells slots Q (F0 m pc ls (.ref (ad (28)) :: rest)) := gf fr hfr cx wo (at_books G ad g ) rfl (k := 2) (by decide) in_books rfl hlk rfl hdg kk
theorem gf_books_cameIn (fr : va_W → va_W) (hfr : Fr fr) (cx : Cx G p R s m args meth c own cc nL rt nm A) (wo : Wo G A s.heap H locs (fr (aw G ad g)))  (hlk : Cond.fieldLink own index "HotAisle$Books" "cameIn" "LHotAisle$Stuff;" ∈ bw) (hdg : decode cc pc = .ok (.getfield index, 3)) (kk : W p l e R s m args below meth c H locs cells slots Q (F0 m (pc + 3) ls (.ref (ad 16) :: rest))) : W p l e R s m args below meth c H locs cells slots Q (F0 m pc ls (.ref (ad (28)) :: rest)) := gf fr hfr cx wo (at_books G ad g ) rfl (k := 3) (by decide) in_books rfl hlk rfl hdg kk
theorem gf_books_becameOther (fr : va_W → va_W) (hfr : Fr fr) (cx : Cx G p R s m args meth c own cc nL rt nm A) (wo : Wo G A s.heap H locs (fr (aw G ad g)))  (hlk : Cond.fieldLink own index "HotAisle$Books" "becameOther" "LHotAisle$Stuff;" ∈ bw) (hdg : decode cc pc = .ok (.getfield index, 3)) (kk : W p l e R s m args below meth c H locs cells slots Q (F0 m (pc + 3) ls (.ref (ad 17) :: rest))) : W p l e R s m args below meth c H locs cells slots Q (F0 m pc ls (.ref (ad (28)) :: rest)) := gf fr hfr cx wo (at_books G ad g ) rfl (k := 4) (by decide) in_books rfl hlk rfl hdg kk
theorem gf_books_cameOfOthers (fr : va_W → va_W) (hfr : Fr fr) (cx : Cx G p R s m args meth c own cc nL rt nm A) (wo : Wo G A s.heap H locs (fr (aw G ad g)))  (hlk : Cond.fieldLink own index "HotAisle$Books" "cameOfOthers" "LHotAisle$Stuff;" ∈ bw) (hdg : decode cc pc = .ok (.getfield index, 3)) (kk : W p l e R s m args below meth c H locs cells slots Q (F0 m (pc + 3) ls (.ref (ad 18) :: rest))) : W p l e R s m args below meth c H locs cells slots Q (F0 m pc ls (.ref (ad (28)) :: rest)) := gf fr hfr cx wo (at_books G ad g ) rfl (k := 5) (by decide) in_books rfl hlk rfl hdg kk
theorem gf_books_minutesPassed (fr : va_W → va_W) (hfr : Fr fr) (cx : Cx G p R s m args meth c own cc nL rt nm A) (wo : Wo G A s.heap H locs (fr (aw G ad g)))  (hlk : Cond.fieldLink own index "HotAisle$Books" "minutesPassed" "I" ∈ bw) (hdg : decode cc pc = .ok (.getfield index, 3)) (kk : W p l e R s m args below meth c H locs cells slots Q (F0 m (pc + 3) ls (.int (g (140)) :: rest))) : W p l e R s m args below meth c H locs cells slots Q (F0 m pc ls (.ref (ad (28)) :: rest)) := gf fr hfr cx wo (at_books G ad g ) rfl (k := 6) (by decide) in_books rfl hlk rfl hdg kk
theorem pf_books_minutesPassed (fr : va_W → va_W) (hfr : Fr fr) (cx : Cx G p R s m args meth c own cc nL rt nm A) (wo : Wo G A s.heap H locs (fr (aw G ad g)))  (hlk : Cond.fieldLink own index "HotAisle$Books" "minutesPassed" "I" ∈ bw) (hdg : decode cc pc = .ok (.putfield index, 3)) (kk : ∀ (H1 : Heap) (locs1 : List Loc) (g1 : St), g1 = upd g (140) x → Wo G A s.heap H1 locs1 (fr (aw G ad g1)) → W p l e R s m args below meth c H1 locs1 cells slots Q (F0 m (pc + 3) ls rest)) : W p l e R s m args below meth c H locs cells slots Q (F0 m pc ls (.int x :: .ref (ad (28)) :: rest)) := pf fr hfr cx wo (j := 28) (by decide) (ac_books G ad g ) rfl (k := 6) (by decide) in_books tyX1 tyX1_ok nmX1 rfl hlk rfl (ty := .int) (by decide +kernel) rfl rfl (Nat.le_of_ble_eq_true rfl) (by rw [ac_books G ad _ ]; simp only [upd, List.set]; simp) (fun k h1 h2 => by unfold rd; (repeat' split) <;> first | omega | exact fun z => z) hdg kk
theorem gf_books_gasOfMinute (fr : va_W → va_W) (hfr : Fr fr) (cx : Cx G p R s m args meth c own cc nL rt nm A) (wo : Wo G A s.heap H locs (fr (aw G ad g)))  (hlk : Cond.fieldLink own index "HotAisle$Books" "gasOfMinute" "I" ∈ bw) (hdg : decode cc pc = .ok (.getfield index, 3)) (kk : W p l e R s m args below meth c H locs cells slots Q (F0 m (pc + 3) ls (.int (g (142)) :: rest))) : W p l e R s m args below meth c H locs cells slots Q (F0 m pc ls (.ref (ad (28)) :: rest)) := gf fr hfr cx wo (at_books G ad g ) rfl (k := 7) (by decide) in_books rfl hlk rfl hdg kk
theorem pf_books_gasOfMinute (fr : va_W → va_W) (hfr : Fr fr) (cx : Cx G p R s m args meth c own cc nL rt nm A) (wo : Wo G A s.heap H locs (fr (aw G ad g)))  (hlk : Cond.fieldLink own index "HotAisle$Books" "gasOfMinute" "I" ∈ bw) (hdg : decode cc pc = .ok (.putfield index, 3)) (kk : ∀ (H1 : Heap) (locs1 : List Loc) (g1 : St), g1 = upd g (142) x → Wo G A s.heap H1 locs1 (fr (aw G ad g1)) → W p l e R s m args below meth c H1 locs1 cells slots Q (F0 m (pc + 3) ls rest)) : W p l e R s m args below meth c H locs cells slots Q (F0 m pc ls (.int x :: .ref (ad (28)) :: rest)) := pf fr hfr cx wo (j := 28) (by decide) (ac_books G ad g ) rfl (k := 7) (by decide) in_books tyX1 tyX1_ok nmX1 rfl hlk rfl (ty := .int) (by decide +kernel) rfl rfl (Nat.le_of_ble_eq_true rfl) (by rw [ac_books G ad _ ]; simp only [upd, List.set]; simp) (fun k h1 h2 => by unfold rd; (repeat' split) <;> first | omega | exact fun z => z) hdg kk
theorem gf_books_anodes (fr : va_W → va_W) (hfr : Fr fr) (cx : Cx G p R s m args meth c own cc nL rt nm A) (wo : Wo G A s.heap H locs (fr (aw G ad g)))  (hlk : Cond.fieldLink own index "HotAisle$Books" "anodes" "I" ∈ bw) (hdg : decode cc pc = .ok (.getfield index, 3)) (kk : W p l e R s m args below meth c H locs cells slots Q (F0 m (pc + 3) ls (.int (g (143)) :: rest))) : W p l e R s m args below meth c H locs cells slots Q (F0 m pc ls (.ref (ad (28)) :: rest)) := gf fr hfr cx wo (at_books G ad g ) rfl (k := 8) (by decide) in_books rfl hlk rfl hdg kk
theorem pf_books_anodes (fr : va_W → va_W) (hfr : Fr fr) (cx : Cx G p R s m args meth c own cc nL rt nm A) (wo : Wo G A s.heap H locs (fr (aw G ad g)))  (hlk : Cond.fieldLink own index "HotAisle$Books" "anodes" "I" ∈ bw) (hdg : decode cc pc = .ok (.putfield index, 3)) (kk : ∀ (H1 : Heap) (locs1 : List Loc) (g1 : St), g1 = upd g (143) x → Wo G A s.heap H1 locs1 (fr (aw G ad g1)) → W p l e R s m args below meth c H1 locs1 cells slots Q (F0 m (pc + 3) ls rest)) : W p l e R s m args below meth c H locs cells slots Q (F0 m pc ls (.int x :: .ref (ad (28)) :: rest)) := pf fr hfr cx wo (j := 28) (by decide) (ac_books G ad g ) rfl (k := 8) (by decide) in_books tyX1 tyX1_ok nmX1 rfl hlk rfl (ty := .int) (by decide +kernel) rfl rfl (Nat.le_of_ble_eq_true rfl) (by rw [ac_books G ad _ ]; simp only [upd, List.set]; simp) (fun k h1 h2 => by unfold rd; (repeat' split) <;> first | omega | exact fun z => z) hdg kk
theorem gf_books_starved (fr : va_W → va_W) (hfr : Fr fr) (cx : Cx G p R s m args meth c own cc nL rt nm A) (wo : Wo G A s.heap H locs (fr (aw G ad g)))  (hlk : Cond.fieldLink own index "HotAisle$Books" "starved" "I" ∈ bw) (hdg : decode cc pc = .ok (.getfield index, 3)) (kk : W p l e R s m args below meth c H locs cells slots Q (F0 m (pc + 3) ls (.int (g (144)) :: rest))) : W p l e R s m args below meth c H locs cells slots Q (F0 m pc ls (.ref (ad (28)) :: rest)) := gf fr hfr cx wo (at_books G ad g ) rfl (k := 9) (by decide) in_books rfl hlk rfl hdg kk
theorem pf_books_starved (fr : va_W → va_W) (hfr : Fr fr) (cx : Cx G p R s m args meth c own cc nL rt nm A) (wo : Wo G A s.heap H locs (fr (aw G ad g)))  (hlk : Cond.fieldLink own index "HotAisle$Books" "starved" "I" ∈ bw) (hdg : decode cc pc = .ok (.putfield index, 3)) (kk : ∀ (H1 : Heap) (locs1 : List Loc) (g1 : St), g1 = upd g (144) x → Wo G A s.heap H1 locs1 (fr (aw G ad g1)) → W p l e R s m args below meth c H1 locs1 cells slots Q (F0 m (pc + 3) ls rest)) : W p l e R s m args below meth c H locs cells slots Q (F0 m pc ls (.int x :: .ref (ad (28)) :: rest)) := pf fr hfr cx wo (j := 28) (by decide) (ac_books G ad g ) rfl (k := 9) (by decide) in_books tyX1 tyX1_ok nmX1 rfl hlk rfl (ty := .int) (by decide +kernel) rfl rfl (Nat.le_of_ble_eq_true rfl) (by rw [ac_books G ad _ ]; simp only [upd, List.set]; simp) (fun k h1 h2 => by unfold rd; (repeat' split) <;> first | omega | exact fun z => z) hdg kk
theorem gf_books_fullMinutes (fr : va_W → va_W) (hfr : Fr fr) (cx : Cx G p R s m args meth c own cc nL rt nm A) (wo : Wo G A s.heap H locs (fr (aw G ad g)))  (hlk : Cond.fieldLink own index "HotAisle$Books" "fullMinutes" "I" ∈ bw) (hdg : decode cc pc = .ok (.getfield index, 3)) (kk : W p l e R s m args below meth c H locs cells slots Q (F0 m (pc + 3) ls (.int (g (145)) :: rest))) : W p l e R s m args below meth c H locs cells slots Q (F0 m pc ls (.ref (ad (28)) :: rest)) := gf fr hfr cx wo (at_books G ad g ) rfl (k := 10) (by decide) in_books rfl hlk rfl hdg kk
theorem pf_books_fullMinutes (fr : va_W → va_W) (hfr : Fr fr) (cx : Cx G p R s m args meth c own cc nL rt nm A) (wo : Wo G A s.heap H locs (fr (aw G ad g)))  (hlk : Cond.fieldLink own index "HotAisle$Books" "fullMinutes" "I" ∈ bw) (hdg : decode cc pc = .ok (.putfield index, 3)) (kk : ∀ (H1 : Heap) (locs1 : List Loc) (g1 : St), g1 = upd g (145) x → Wo G A s.heap H1 locs1 (fr (aw G ad g1)) → W p l e R s m args below meth c H1 locs1 cells slots Q (F0 m (pc + 3) ls rest)) : W p l e R s m args below meth c H locs cells slots Q (F0 m pc ls (.int x :: .ref (ad (28)) :: rest)) := pf fr hfr cx wo (j := 28) (by decide) (ac_books G ad g ) rfl (k := 10) (by decide) in_books tyX1 tyX1_ok nmX1 rfl hlk rfl (ty := .int) (by decide +kernel) rfl rfl (Nat.le_of_ble_eq_true rfl) (by rw [ac_books G ad _ ]; simp only [upd, List.set]; simp) (fun k h1 h2 => by unfold rd; (repeat' split) <;> first | omega | exact fun z => z) hdg kk
theorem gf_books_ordersDone (fr : va_W → va_W) (hfr : Fr fr) (cx : Cx G p R s m args meth c own cc nL rt nm A) (wo : Wo G A s.heap H locs (fr (aw G ad g)))  (hlk : Cond.fieldLink own index "HotAisle$Books" "ordersDone" "I" ∈ bw) (hdg : decode cc pc = .ok (.getfield index, 3)) (kk : W p l e R s m args below meth c H locs cells slots Q (F0 m (pc + 3) ls (.int (g (146)) :: rest))) : W p l e R s m args below meth c H locs cells slots Q (F0 m pc ls (.ref (ad (28)) :: rest)) := gf fr hfr cx wo (at_books G ad g ) rfl (k := 11) (by decide) in_books rfl hlk rfl hdg kk
theorem pf_books_ordersDone (fr : va_W → va_W) (hfr : Fr fr) (cx : Cx G p R s m args meth c own cc nL rt nm A) (wo : Wo G A s.heap H locs (fr (aw G ad g)))  (hlk : Cond.fieldLink own index "HotAisle$Books" "ordersDone" "I" ∈ bw) (hdg : decode cc pc = .ok (.putfield index, 3)) (kk : ∀ (H1 : Heap) (locs1 : List Loc) (g1 : St), g1 = upd g (146) x → Wo G A s.heap H1 locs1 (fr (aw G ad g1)) → W p l e R s m args below meth c H1 locs1 cells slots Q (F0 m (pc + 3) ls rest)) : W p l e R s m args below meth c H locs cells slots Q (F0 m pc ls (.int x :: .ref (ad (28)) :: rest)) := pf fr hfr cx wo (j := 28) (by decide) (ac_books G ad g ) rfl (k := 11) (by decide) in_books tyX1 tyX1_ok nmX1 rfl hlk rfl (ty := .int) (by decide +kernel) rfl rfl (Nat.le_of_ble_eq_true rfl) (by rw [ac_books G ad _ ]; simp only [upd, List.set]; simp) (fun k h1 h2 => by unfold rd; (repeat' split) <;> first | omega | exact fun z => z) hdg kk
theorem in_aisle : ∀ w ∈ u_ws "HotAisle$Aisle" TX0 9, w ∈ bw := List.forall_mem_cons.mpr ⟨m_262, List.forall_mem_cons.mpr ⟨m_264, List.forall_mem_cons.mpr ⟨m_266, List.forall_mem_cons.mpr ⟨m_268, List.forall_mem_cons.mpr ⟨m_270, List.forall_mem_cons.mpr ⟨m_272, List.forall_mem_cons.mpr ⟨m_274, List.forall_mem_cons.mpr ⟨m_276, List.forall_mem_cons.mpr ⟨m_278, fun _ h => absurd h List.not_mem_nil⟩⟩⟩⟩⟩⟩⟩⟩⟩
theorem ac_aisle (G : GG) (ad : Nat → Nat) (g : St)  : ac G ad g (12) = .inr (0, [.ref (ad 0), .ref (ad 29), .ref (ad 30), .ref (ad 26), .ref (ad 27), .ref (ad 28), .int (g (48)), .int (g (148)), .int (g (149))]) := rfl
theorem at_aisle (G : GG) (ad : Nat → Nat) (g : St)  : (aw G ad g)[12]? = some (ad (12), .inr (0, [.ref (ad 0), .ref (ad 29), .ref (ad 30), .ref (ad 26), .ref (ad 27), .ref (ad 28), .int (g (48)), .int (g (148)), .int (g (149))])) := by rw [aw_at G ad g (by decide), ac_aisle G ad g ]
theorem gf_aisle_furnace (fr : va_W → va_W) (hfr : Fr fr) (cx : Cx G p R s m args meth c own cc nL rt nm A) (wo : Wo G A s.heap H locs (fr (aw G ad g)))  (hlk : Cond.fieldLink own index "HotAisle$Aisle" "furnace" "LHotAisle$Stuff;" ∈ bw) (hdg : decode cc pc = .ok (.getfield index, 3)) (kk : W p l e R s m args below meth c H locs cells slots Q (F0 m (pc + 3) ls (.ref (ad 0) :: rest))) : W p l e R s m args below meth c H locs cells slots Q (F0 m pc ls (.ref (ad (12)) :: rest)) := gf fr hfr cx wo (at_aisle G ad g ) rfl (k := 0) (by decide) in_aisle rfl hlk rfl hdg kk
theorem gf_aisle_vessels (fr : va_W → va_W) (hfr : Fr fr) (cx : Cx G p R s m args meth c own cc nL rt nm A) (wo : Wo G A s.heap H locs (fr (aw G ad g)))  (hlk : Cond.fieldLink own index "HotAisle$Aisle" "vessels" "[LHotAisle$Vessel;" ∈ bw) (hdg : decode cc pc = .ok (.getfield index, 3)) (kk : W p l e R s m args below meth c H locs cells slots Q (F0 m (pc + 3) ls (.ref (ad 29) :: rest))) : W p l e R s m args below meth c H locs cells slots Q (F0 m pc ls (.ref (ad (12)) :: rest)) := gf fr hfr cx wo (at_aisle G ad g ) rfl (k := 1) (by decide) in_aisle rfl hlk rfl hdg kk
theorem gf_aisle_ladles (fr : va_W → va_W) (hfr : Fr fr) (cx : Cx G p R s m args meth c own cc nL rt nm A) (wo : Wo G A s.heap H locs (fr (aw G ad g)))  (hlk : Cond.fieldLink own index "HotAisle$Aisle" "ladles" "[LHotAisle$Ladle;" ∈ bw) (hdg : decode cc pc = .ok (.getfield index, 3)) (kk : W p l e R s m args below meth c H locs cells slots Q (F0 m (pc + 3) ls (.ref (ad 30) :: rest))) : W p l e R s m args below meth c H locs cells slots Q (F0 m pc ls (.ref (ad (12)) :: rest)) := gf fr hfr cx wo (at_aisle G ad g ) rfl (k := 2) (by decide) in_aisle rfl hlk rfl hdg kk
theorem gf_aisle_left (fr : va_W → va_W) (hfr : Fr fr) (cx : Cx G p R s m args meth c own cc nL rt nm A) (wo : Wo G A s.heap H locs (fr (aw G ad g)))  (hlk : Cond.fieldLink own index "HotAisle$Aisle" "left" "LHotAisle$Crane;" ∈ bw) (hdg : decode cc pc = .ok (.getfield index, 3)) (kk : W p l e R s m args below meth c H locs cells slots Q (F0 m (pc + 3) ls (.ref (ad 26) :: rest))) : W p l e R s m args below meth c H locs cells slots Q (F0 m pc ls (.ref (ad (12)) :: rest)) := gf fr hfr cx wo (at_aisle G ad g ) rfl (k := 3) (by decide) in_aisle rfl hlk rfl hdg kk
theorem gf_aisle_right (fr : va_W → va_W) (hfr : Fr fr) (cx : Cx G p R s m args meth c own cc nL rt nm A) (wo : Wo G A s.heap H locs (fr (aw G ad g)))  (hlk : Cond.fieldLink own index "HotAisle$Aisle" "right" "LHotAisle$Crane;" ∈ bw) (hdg : decode cc pc = .ok (.getfield index, 3)) (kk : W p l e R s m args below meth c H locs cells slots Q (F0 m (pc + 3) ls (.ref (ad 27) :: rest))) : W p l e R s m args below meth c H locs cells slots Q (F0 m pc ls (.ref (ad (12)) :: rest)) := gf fr hfr cx wo (at_aisle G ad g ) rfl (k := 4) (by decide) in_aisle rfl hlk rfl hdg kk
theorem gf_aisle_books (fr : va_W → va_W) (hfr : Fr fr) (cx : Cx G p R s m args meth c own cc nL rt nm A) (wo : Wo G A s.heap H locs (fr (aw G ad g)))  (hlk : Cond.fieldLink own index "HotAisle$Aisle" "books" "LHotAisle$Books;" ∈ bw) (hdg : decode cc pc = .ok (.getfield index, 3)) (kk : W p l e R s m args below meth c H locs cells slots Q (F0 m (pc + 3) ls (.ref (ad 28) :: rest))) : W p l e R s m args below meth c H locs cells slots Q (F0 m pc ls (.ref (ad (12)) :: rest)) := gf fr hfr cx wo (at_aisle G ad g ) rfl (k := 5) (by decide) in_aisle rfl hlk rfl hdg kk
theorem gf_aisle_wheelCopper (fr : va_W → va_W) (hfr : Fr fr) (cx : Cx G p R s m args meth c own cc nL rt nm A) (wo : Wo G A s.heap H locs (fr (aw G ad g)))  (hlk : Cond.fieldLink own index "HotAisle$Aisle" "wheelCopper" "I" ∈ bw) (hdg : decode cc pc = .ok (.getfield index, 3)) (kk : W p l e R s m args below meth c H locs cells slots Q (F0 m (pc + 3) ls (.int (g (48)) :: rest))) : W p l e R s m args below meth c H locs cells slots Q (F0 m pc ls (.ref (ad (12)) :: rest)) := gf fr hfr cx wo (at_aisle G ad g ) rfl (k := 6) (by decide) in_aisle rfl hlk rfl hdg kk
theorem pf_aisle_wheelCopper (fr : va_W → va_W) (hfr : Fr fr) (cx : Cx G p R s m args meth c own cc nL rt nm A) (wo : Wo G A s.heap H locs (fr (aw G ad g)))  (hlk : Cond.fieldLink own index "HotAisle$Aisle" "wheelCopper" "I" ∈ bw) (hdg : decode cc pc = .ok (.putfield index, 3)) (kk : ∀ (H1 : Heap) (locs1 : List Loc) (g1 : St), g1 = upd g (48) x → Wo G A s.heap H1 locs1 (fr (aw G ad g1)) → W p l e R s m args below meth c H1 locs1 cells slots Q (F0 m (pc + 3) ls rest)) : W p l e R s m args below meth c H locs cells slots Q (F0 m pc ls (.int x :: .ref (ad (12)) :: rest)) := pf fr hfr cx wo (j := 12) (by decide) (ac_aisle G ad g ) rfl (k := 6) (by decide) in_aisle tyX0 tyX0_ok nmX0 rfl hlk rfl (ty := .int) (by decide +kernel) rfl rfl (Nat.le_of_ble_eq_true rfl) (by rw [ac_aisle G ad _ ]; simp only [upd, List.set]; simp) (fun k h1 h2 => by unfold rd; (repeat' split) <;> first | omega | exact fun z => z) hdg kk
theorem gf_aisle_gasLimit (fr : va_W → va_W) (hfr : Fr fr) (cx : Cx G p R s m args meth c own cc nL rt nm A) (wo : Wo G A s.heap H locs (fr (aw G ad g)))  (hlk : Cond.fieldLink own index "HotAisle$Aisle" "gasLimit" "I" ∈ bw) (hdg : decode cc pc = .ok (.getfield index, 3)) (kk : W p l e R s m args below meth c H locs cells slots Q (F0 m (pc + 3) ls (.int (g (148)) :: rest))) : W p l e R s m args below meth c H locs cells slots Q (F0 m pc ls (.ref (ad (12)) :: rest)) := gf fr hfr cx wo (at_aisle G ad g ) rfl (k := 7) (by decide) in_aisle rfl hlk rfl hdg kk
theorem pf_aisle_gasLimit (fr : va_W → va_W) (hfr : Fr fr) (cx : Cx G p R s m args meth c own cc nL rt nm A) (wo : Wo G A s.heap H locs (fr (aw G ad g)))  (hlk : Cond.fieldLink own index "HotAisle$Aisle" "gasLimit" "I" ∈ bw) (hdg : decode cc pc = .ok (.putfield index, 3)) (kk : ∀ (H1 : Heap) (locs1 : List Loc) (g1 : St), g1 = upd g (148) x → Wo G A s.heap H1 locs1 (fr (aw G ad g1)) → W p l e R s m args below meth c H1 locs1 cells slots Q (F0 m (pc + 3) ls rest)) : W p l e R s m args below meth c H locs cells slots Q (F0 m pc ls (.int x :: .ref (ad (12)) :: rest)) := pf fr hfr cx wo (j := 12) (by decide) (ac_aisle G ad g ) rfl (k := 7) (by decide) in_aisle tyX0 tyX0_ok nmX0 rfl hlk rfl (ty := .int) (by decide +kernel) rfl rfl (Nat.le_of_ble_eq_true rfl) (by rw [ac_aisle G ad _ ]; simp only [upd, List.set]; simp) (fun k h1 h2 => by unfold rd; (repeat' split) <;> first | omega | exact fun z => z) hdg kk
theorem gf_aisle_isFed (fr : va_W → va_W) (hfr : Fr fr) (cx : Cx G p R s m args meth c own cc nL rt nm A) (wo : Wo G A s.heap H locs (fr (aw G ad g)))  (hlk : Cond.fieldLink own index "HotAisle$Aisle" "isFed" "Z" ∈ bw) (hdg : decode cc pc = .ok (.getfield index, 3)) (kk : W p l e R s m args below meth c H locs cells slots Q (F0 m (pc + 3) ls (.int (g (149)) :: rest))) : W p l e R s m args below meth c H locs cells slots Q (F0 m pc ls (.ref (ad (12)) :: rest)) := gf fr hfr cx wo (at_aisle G ad g ) rfl (k := 8) (by decide) in_aisle rfl hlk rfl hdg kk
theorem pf_aisle_isFed (fr : va_W → va_W) (hfr : Fr fr) (cx : Cx G p R s m args meth c own cc nL rt nm A) (wo : Wo G A s.heap H locs (fr (aw G ad g)))  (hlk : Cond.fieldLink own index "HotAisle$Aisle" "isFed" "Z" ∈ bw) (hnr : narrow .boolean (.int x) = .int x) (hft : fits .boolean (.int x) = true) (hdg : decode cc pc = .ok (.putfield index, 3)) (kk : ∀ (H1 : Heap) (locs1 : List Loc) (g1 : St), g1 = upd g (149) x → Wo G A s.heap H1 locs1 (fr (aw G ad g1)) → W p l e R s m args below meth c H1 locs1 cells slots Q (F0 m (pc + 3) ls rest)) : W p l e R s m args below meth c H locs cells slots Q (F0 m pc ls (.int x :: .ref (ad (12)) :: rest)) := pf fr hfr cx wo (j := 12) (by decide) (ac_aisle G ad g ) rfl (k := 8) (by decide) in_aisle tyX0 tyX0_ok nmX0 rfl hlk rfl (ty := .boolean) (by decide +kernel) hnr hft (Nat.le_of_ble_eq_true rfl) (by rw [ac_aisle G ad _ ]; simp only [upd, List.set]; simp) (fun k h1 h2 => by unfold rd; (repeat' split) <;> first | omega | exact fun z => z) hdg kk
theorem at_vs (G : GG) (ad : Nat → Nat) (g : St) : (aw G ad g)[29]? = some (ad 29, .inl (G.2 1, 3, .inr (.inr (.inr (.inr (fun i => some (ad (19 + i)))))))) := aw_at G ad g (by decide)
theorem at_ls (G : GG) (ad : Nat → Nat) (g : St) : (aw G ad g)[30]? = some (ad 30, .inl (G.2 2, 4, .inr (.inr (.inr (.inr (fun i => some (ad (22 + i)))))))) := aw_at G ad g (by decide)
theorem ac_wh (G : GG) (ad : Nat → Nat) (g : St) {c : Nat} (hc : c < 2) : ac G ad g (31 + c) = .inl (G.2 0, 8, .inl (fun i => if i < 8 then g (108 + 16 * c + 2 * i) else 0)) := by
  unfold ac; rw [if_neg (by omega), if_neg (by omega), if_neg (by omega), if_neg (by omega), if_neg (by omega), if_neg (by omega), if_neg (by omega), if_neg (by omega), if_pos (by omega), show 31 + c - 31 = c from by omega]
theorem ac_tg (G : GG) (ad : Nat → Nat) (g : St) {c : Nat} (hc : c < 2) : ac G ad g (33 + c) = .inl (G.2 0, 8, .inl (fun i => if i < 8 then g (108 + 16 * c + 2 * i + 1) else 0)) := by
  unfold ac; rw [if_neg (by omega), if_neg (by omega), if_neg (by omega), if_neg (by omega), if_neg (by omega), if_neg (by omega), if_neg (by omega), if_neg (by omega), if_neg (by omega), show 33 + c - 33 = c from by omega]
theorem ald_wh {c n : Nat} {i : Int32} {cd : Code} (fr : va_W → va_W) (hfr : Fr fr) (cx : Cx G p R s m args meth cd own cc nL rt nm A) (wo : Wo G A s.heap H locs (fr (aw G ad g))) (hc : c < 2) (hi : i = nI n) (hn : n < 8) (hdg : decode cc pc = .ok (.iaload, 1))
    (kk : W p l e R s m args below meth cd H locs cells slots Q (F0 m (pc + 1) ls (.int (g (108 + 16 * c + 2 * n)) :: rest))) : W p l e R s m args below meth cd H locs cells slots Q (F0 m pc ls (.int i :: .ref (ad (31 + c)) :: rest)) := by
  refine ald_i (j := 31 + c) fr hfr cx wo (by rw [aw_at G ad g (by omega), ac_wh G ad g hc]) hi hn (by decide) hdg ?_
  simp only [hn, if_true]
  exact kk
theorem ald_tg {c n : Nat} {i : Int32} {cd : Code} (fr : va_W → va_W) (hfr : Fr fr) (cx : Cx G p R s m args meth cd own cc nL rt nm A) (wo : Wo G A s.heap H locs (fr (aw G ad g))) (hc : c < 2) (hi : i = nI n) (hn : n < 8) (hdg : decode cc pc = .ok (.iaload, 1))
    (kk : W p l e R s m args below meth cd H locs cells slots Q (F0 m (pc + 1) ls (.int (g (108 + 16 * c + 2 * n + 1)) :: rest))) : W p l e R s m args below meth cd H locs cells slots Q (F0 m pc ls (.int i :: .ref (ad (33 + c)) :: rest)) := by
  refine ald_i (j := 33 + c) fr hfr cx wo (by rw [aw_at G ad g (by omega), ac_tg G ad g hc]) hi hn (by decide) hdg ?_
  simp only [hn, if_true]
  exact kk
theorem ast_ac {j n i0 : Nat} {f : St} {i : Int32} (fr : va_W → va_W) (hfr : Fr fr) (cx : Cx G p R s m args meth c own cc nL rt nm A) (wo : Wo G A s.heap H locs (fr (aw G ad g))) (hj : j < 35) (he : ac G ad g j = .inl (G.2 0, 8, .inl f)) (hi : i = nI n) (hn : n < 8) (he' : ac G ad (upd g i0 x) j = .inl (G.2 0, 8, .inl (upd f n x))) (hf : ∀ k, k < 35 → k ≠ j → ¬ rd k i0) (hdg : decode cc pc = .ok (.iastore, 1))
    (kk : ∀ (H1 : Heap) (locs1 : List Loc) (g1 : St), g1 = upd g i0 x → Wo G A s.heap H1 locs1 (fr (aw G ad g1)) → W p l e R s m args below meth c H1 locs1 cells slots Q (F0 m (pc + 1) ls rest)) : W p l e R s m args below meth c H locs cells slots Q (F0 m pc ls (.int x :: .int i :: .ref (ad j) :: rest)) := by
  obtain ⟨L1, L2, hfr⟩ := hfr
  subst hi
  have hat : (aw G ad g)[j]? = some (ad j, .inl (G.2 0, 8, .inl f)) := by rw [aw_at G ad g hj, he]
  refine va_iast cx.1 cx.2.1 cx.2.2.2.2.2.2.2.2.1.1 wo.1 wo.2.1 wo.2.2 (L1.length + j) 0 (fr_get hfr hat) rfl (vp_in_nI hn (by decide)) hdg (fun H1 locs1 hP hD hS => ?_)
  rw [nI_clamp (by omega), fr_set hfr (by rw [aw_len]; exact hj), aw_upd G ad he' hf] at hP hD
  exact kk H1 locs1 _ rfl ⟨hP, hD, hS⟩
theorem ast_wh {c n : Nat} {i : Int32} {cd : Code} (fr : va_W → va_W) (hfr : Fr fr) (cx : Cx G p R s m args meth cd own cc nL rt nm A) (wo : Wo G A s.heap H locs (fr (aw G ad g))) (hc : c < 2) (hi : i = nI n) (hn : n < 8) (hdg : decode cc pc = .ok (.iastore, 1))
    (kk : ∀ (H1 : Heap) (locs1 : List Loc) (g1 : St), g1 = upd g (108 + 16 * c + 2 * n) x → Wo G A s.heap H1 locs1 (fr (aw G ad g1)) → W p l e R s m args below meth cd H1 locs1 cells slots Q (F0 m (pc + 1) ls rest)) : W p l e R s m args below meth cd H locs cells slots Q (F0 m pc ls (.int x :: .int i :: .ref (ad (31 + c)) :: rest)) := by
  refine ast_ac fr hfr cx wo (by omega) (ac_wh G ad g hc) hi hn (i0 := 108 + 16 * c + 2 * n) ?_ (fun k h1 h2 => by unfold rd; (repeat' split) <;> first | omega | exact fun z => z) hdg kk
  rw [ac_wh G ad _ hc]
  refine congrArg (fun z => Sum.inl (G.2 0, 8, Sum.inl z)) (funext fun q => ?_)
  simp only [upd]
  by_cases h : q = n
  · subst h; simp [hn]
  · rw [if_neg h]
    by_cases h8 : q < 8
    · rw [if_pos h8, if_pos h8, if_neg (by omega)]
    · rw [if_neg h8, if_neg h8]
theorem ast_tg {c n : Nat} {i : Int32} {cd : Code} (fr : va_W → va_W) (hfr : Fr fr) (cx : Cx G p R s m args meth cd own cc nL rt nm A) (wo : Wo G A s.heap H locs (fr (aw G ad g))) (hc : c < 2) (hi : i = nI n) (hn : n < 8) (hdg : decode cc pc = .ok (.iastore, 1))
    (kk : ∀ (H1 : Heap) (locs1 : List Loc) (g1 : St), g1 = upd g (108 + 16 * c + 2 * n + 1) x → Wo G A s.heap H1 locs1 (fr (aw G ad g1)) → W p l e R s m args below meth cd H1 locs1 cells slots Q (F0 m (pc + 1) ls rest)) : W p l e R s m args below meth cd H locs cells slots Q (F0 m pc ls (.int x :: .int i :: .ref (ad (33 + c)) :: rest)) := by
  refine ast_ac fr hfr cx wo (by omega) (ac_tg G ad g hc) hi hn (i0 := 108 + 16 * c + 2 * n + 1) ?_ (fun k h1 h2 => by unfold rd; (repeat' split) <;> first | omega | exact fun z => z) hdg kk
  rw [ac_tg G ad _ hc]
  refine congrArg (fun z => Sum.inl (G.2 0, 8, Sum.inl z)) (funext fun q => ?_)
  simp only [upd]
  by_cases h : q = n
  · subst h; simp [hn]
  · rw [if_neg h]
    by_cases h8 : q < 8
    · rw [if_pos h8, if_pos h8, if_neg (by omega)]
    · rw [if_neg h8, if_neg h8]
end AW
end
section
/-! the reference's world; small rows of both walks -/
def mw (G : GG) (am : Nat → Nat) (g : St) (kf : St) (n : Int32) : va_W := [(am 0, .inr (7, [.ref (am 1), .ref (am 2), .int n])), (am 1, .inl (G.2 0, 150, .inl g)), (am 2, .inl (G.2 0, 1200, .inl kf))]
theorem in_model : ∀ w ∈ u_ws "HotAisleModel" TX7 3, w ∈ bw := List.forall_mem_cons.mpr ⟨m_634, List.forall_mem_cons.mpr ⟨m_636, List.forall_mem_cons.mpr ⟨m_638, fun _ h => absurd h List.not_mem_nil⟩⟩⟩
def mn (x y : Int32) : Int32 := if y < x then y else x
def mx (x y : Int32) : Int32 := if x < y then y else x
theorem rdn {g1 g : St} {i j : Nat} {x v : Int32} (h : g1 = upd g i x) (hj : j ≠ i) (hv : g j = v) : g1 j = v := by rw [h, pk_un hj, hv]
theorem rds {g1 g : St} {i j : Nat} {x : Int32} (h : g1 = upd g i x) (hj : j = i) : g1 j = x := by rw [h, hj, pk_us]
section MW
variable {G : GG} {p : Program} {l : Launch} {e : Env} {R : Room} {s : State} {m : MethodId} {args : Array Value} {below : List Frame} {meth : Method} {c : Code} {H : Heap} {locs : List Loc} {cells slots : Nat} {own : String} {cc : ByteArray} {nL : Nat} {rt : Option FieldType} {nm : String} {A : Nat → Prop} {pc : Nat} {ls : Array Slot} {rest : List Value} {Q : State → Prop} {am : Nat → Nat} {g kf : St} {nk : Int32} {index : Nat} {x : Int32}
theorem mg_st (cx : Cx G p R s m args meth c own cc nL rt nm A) (wo : Wo G A s.heap H locs (mw G am g kf nk)) (hl : Cond.fieldLink own index "HotAisleModel" "st" "[I" ∈ bw) (hdg : decode cc pc = .ok (.getfield index, 3)) (kk : W p l e R s m args below meth c H locs cells slots Q (F0 m (pc + 3) ls (.ref (am 1) :: rest))) : W p l e R s m args below meth c H locs cells slots Q (F0 m pc ls (.ref (am 0) :: rest)) :=
  gf (fun X => X) Fr_id cx wo (j := 0) rfl rfl (k := 0) (by decide) in_model rfl hl rfl hdg kk
theorem mg_kept (cx : Cx G p R s m args meth c own cc nL rt nm A) (wo : Wo G A s.heap H locs (mw G am g kf nk)) (hl : Cond.fieldLink own index "HotAisleModel" "kept" "[I" ∈ bw) (hdg : decode cc pc = .ok (.getfield index, 3)) (kk : W p l e R s m args below meth c H locs cells slots Q (F0 m (pc + 3) ls (.ref (am 2) :: rest))) : W p l e R s m args below meth c H locs cells slots Q (F0 m pc ls (.ref (am 0) :: rest)) :=
  gf (fun X => X) Fr_id cx wo (j := 0) rfl rfl (k := 1) (by decide) in_model rfl hl rfl hdg kk
theorem mg_many (cx : Cx G p R s m args meth c own cc nL rt nm A) (wo : Wo G A s.heap H locs (mw G am g kf nk)) (hl : Cond.fieldLink own index "HotAisleModel" "keptMany" "I" ∈ bw) (hdg : decode cc pc = .ok (.getfield index, 3)) (kk : W p l e R s m args below meth c H locs cells slots Q (F0 m (pc + 3) ls (.int nk :: rest))) : W p l e R s m args below meth c H locs cells slots Q (F0 m pc ls (.ref (am 0) :: rest)) :=
  gf (fun X => X) Fr_id cx wo (j := 0) rfl rfl (k := 2) (by decide) in_model rfl hl rfl hdg kk
theorem mp_many (cx : Cx G p R s m args meth c own cc nL rt nm A) (wo : Wo G A s.heap H locs (mw G am g kf nk)) (hl : Cond.fieldLink own index "HotAisleModel" "keptMany" "I" ∈ bw) (hdg : decode cc pc = .ok (.putfield index, 3)) (kk : ∀ (H1 : Heap) (locs1 : List Loc), Wo G A s.heap H1 locs1 (mw G am g kf x) → W p l e R s m args below meth c H1 locs1 cells slots Q (F0 m (pc + 3) ls rest)) : W p l e R s m args below meth c H locs cells slots Q (F0 m pc ls (.int x :: .ref (am 0) :: rest)) :=
  va_put cx.1 cx.2.1 cx.2.2.2.2.2.2.1 in_model tyX7 tyX7_ok nmX7 cx.2.2.2.2.2.1 cx.2.2.2.2.2.2.2.2.1.1 wo.1 wo.2.1 wo.2.2 0 rfl rfl 2 (by decide) (cx.2.2.2.2.2.2.1 _ hl) (fun _ h => h) rfl (ty := .int) (by decide +kernel) rfl rfl (Nat.le_of_ble_eq_true rfl) hdg (fun H1 locs1 hP hD hS => kk H1 locs1 ⟨hP, hD, hS⟩)
theorem ml_st {n : Nat} {i : Int32} (cx : Cx G p R s m args meth c own cc nL rt nm A) (wo : Wo G A s.heap H locs (mw G am g kf nk)) (hi : i = nI n) (hn : n < 150) (hdg : decode cc pc = .ok (.iaload, 1)) (kk : W p l e R s m args below meth c H locs cells slots Q (F0 m (pc + 1) ls (.int (g n) :: rest))) : W p l e R s m args below meth c H locs cells slots Q (F0 m pc ls (.int i :: .ref (am 1) :: rest)) :=
  ald_i (fun X => X) Fr_id cx wo (j := 1) rfl hi hn (by decide) hdg kk
theorem ml_kept {n : Nat} {i : Int32} (cx : Cx G p R s m args meth c own cc nL rt nm A) (wo : Wo G A s.heap H locs (mw G am g kf nk)) (hi : i = nI n) (hn : n < 1200) (hdg : decode cc pc = .ok (.iaload, 1)) (kk : W p l e R s m args below meth c H locs cells slots Q (F0 m (pc + 1) ls (.int (kf n) :: rest))) : W p l e R s m args below meth c H locs cells slots Q (F0 m pc ls (.int i :: .ref (am 2) :: rest)) :=
  ald_i (fun X => X) Fr_id cx wo (j := 2) rfl hi hn (by decide) hdg kk
theorem ms_st {n : Nat} {i : Int32} (cx : Cx G p R s m args meth c own cc nL rt nm A) (wo : Wo G A s.heap H locs (mw G am g kf nk)) (hi : i = nI n) (hn : n < 150) (hdg : decode cc pc = .ok (.iastore, 1)) (kk : ∀ (H1 : Heap) (locs1 : List Loc) (g1 : St), g1 = upd g n x → Wo G A s.heap H1 locs1 (mw G am g1 kf nk) → W p l e R s m args below meth c H1 locs1 cells slots Q (F0 m (pc + 1) ls rest)) : W p l e R s m args below meth c H locs cells slots Q (F0 m pc ls (.int x :: .int i :: .ref (am 1) :: rest)) := by
  subst hi
  refine va_iast cx.1 cx.2.1 cx.2.2.2.2.2.2.2.2.1.1 wo.1 wo.2.1 wo.2.2 1 0 rfl rfl (vp_in_nI hn (by decide)) hdg (fun H1 locs1 hP hD hS => ?_)
  rw [nI_clamp (by omega)] at hP hD
  exact kk H1 locs1 _ rfl ⟨hP, hD, hS⟩
theorem ms_kept {n : Nat} {i : Int32} (cx : Cx G p R s m args meth c own cc nL rt nm A) (wo : Wo G A s.heap H locs (mw G am g kf nk)) (hi : i = nI n) (hn : n < 1200) (hdg : decode cc pc = .ok (.iastore, 1)) (kk : ∀ (H1 : Heap) (locs1 : List Loc), Wo G A s.heap H1 locs1 (mw G am g (upd kf n x) nk) → W p l e R s m args below meth c H1 locs1 cells slots Q (F0 m (pc + 1) ls rest)) : W p l e R s m args below meth c H locs cells slots Q (F0 m pc ls (.int x :: .int i :: .ref (am 2) :: rest)) := by
  subst hi
  refine va_iast cx.1 cx.2.1 cx.2.2.2.2.2.2.2.2.1.1 wo.1 wo.2.1 wo.2.2 2 0 rfl rfl (vp_in_nI hn (by decide)) hdg (fun H1 locs1 hP hD hS => ?_)
  rw [nI_clamp (by omega)] at hP hD
  exact kk H1 locs1 ⟨hP, hD, hS⟩
theorem min_r {y : Int32} (cx : Cx G p R s m args meth c own cc nL rt nm A) (hl : Cond.methodLink own index ⟨"java/lang/Math", "min", "(II)I"⟩ ∈ bw) (hdg : decode cc pc = .ok (.invokestatic index, 3)) (hls : ls.size = nL) (hfr : 1 ≤ R.frames) (hlo : (rest.map fun v => v.category).sum + 13 ≤ R.locals) (hc : cells ≤ R.cells) (hs : slots ≤ R.slots)
    (kk : W p l e R s m args below meth c H locs cells slots Q (F0 m (pc + 3) ls (.int (mn x y) :: rest))) : W p l e R s m args below meth c H locs cells slots Q (F0 m pc ls (.int y :: .int x :: rest)) :=
  va_mmin cx.1 cx.2.1 (by rw [cx.2.2.1, hls]) cx.2.2.2.2.2.1 (cx.2.2.2.2.2.2.1 _ hl) (cx.2.2.2.2.2.2.1 _ m_379) (cx.2.2.2.2.2.2.1 _ m_47) (cx.2.2.2.2.2.2.1 _ m_380) hfr hlo hc hs hdg kk
theorem max_r {y : Int32} (cx : Cx G p R s m args meth c own cc nL rt nm A) (hl : Cond.methodLink own index ⟨"java/lang/Math", "max", "(II)I"⟩ ∈ bw) (hdg : decode cc pc = .ok (.invokestatic index, 3)) (hls : ls.size = nL) (hfr : 1 ≤ R.frames) (hlo : (rest.map fun v => v.category).sum + 13 ≤ R.locals) (hc : cells ≤ R.cells) (hs : slots ≤ R.slots)
    (kk : W p l e R s m args below meth c H locs cells slots Q (F0 m (pc + 3) ls (.int (mx x y) :: rest))) : W p l e R s m args below meth c H locs cells slots Q (F0 m pc ls (.int y :: .int x :: rest)) :=
  va_mmax cx.1 cx.2.1 (by rw [cx.2.2.1, hls]) cx.2.2.2.2.2.1 (cx.2.2.2.2.2.2.1 _ hl) (cx.2.2.2.2.2.2.1 _ m_390) (cx.2.2.2.2.2.2.1 _ m_47) (cx.2.2.2.2.2.2.1 _ m_391) hfr hlo hc hs hdg kk
end MW
theorem out_sw {x : Int32} {lo hi : Int} (h : ∀ k : Int, lo ≤ k → k ≤ hi → ¬ x.toInt = k) : x.toInt < lo ∨ hi < x.toInt := by
  by_cases h1 : x.toInt < lo
  · exact Or.inl h1
  · by_cases h2 : hi < x.toInt
    · exact Or.inr h2
    · exact absurd rfl (h x.toInt (by omega) (by omega))
end
section
/-! decode rows: the class -/
theorem dX0_init_0 : decode cX0_init 0 = .ok (.aload_n 0, 1) := by decide +kernel
theorem dX0_init_1 : decode cX0_init 1 = .ok (.invokespecial 3, 3) := by decide +kernel
theorem dX0_init_4 : decode cX0_init 4 = .ok (.aload_n 0, 1) := by decide +kernel
theorem dX0_init_5 : decode cX0_init 5 = .ok (.new 9, 3) := by decide +kernel
theorem dX0_init_8 : decode cX0_init 8 = .ok (.dup, 1) := by decide +kernel
theorem dX0_init_9 : decode cX0_init 9 = .ok (.invokespecial 11, 3) := by decide +kernel
theorem dX0_init_12 : decode cX0_init 12 = .ok (.putfield 12, 3) := by decide +kernel
theorem dX0_init_15 : decode cX0_init 15 = .ok (.aload_n 0, 1) := by decide +kernel
theorem dX0_init_16 : decode cX0_init 16 = .ok (.getstatic 18, 3) := by decide +kernel
theorem dX0_init_19 : decode cX0_init 19 = .ok (.arraylength, 1) := by decide +kernel
theorem dX0_init_20 : decode cX0_init 20 = .ok (.anewarray 22, 3) := by decide +kernel
theorem dX0_init_23 : decode cX0_init 23 = .ok (.putfield 24, 3) := by decide +kernel
theorem dX0_init_26 : decode cX0_init 26 = .ok (.aload_n 0, 1) := by decide +kernel
theorem dX0_init_27 : decode cX0_init 27 = .ok (.getstatic 28, 3) := by decide +kernel
theorem dX0_init_30 : decode cX0_init 30 = .ok (.arraylength, 1) := by decide +kernel
theorem dX0_init_31 : decode cX0_init 31 = .ok (.anewarray 31, 3) := by decide +kernel
theorem dX0_init_34 : decode cX0_init 34 = .ok (.putfield 33, 3) := by decide +kernel
theorem dX0_init_37 : decode cX0_init 37 = .ok (.aload_n 0, 1) := by decide +kernel
theorem dX0_init_38 : decode cX0_init 38 = .ok (.new 37, 3) := by decide +kernel
theorem dX0_init_41 : decode cX0_init 41 = .ok (.dup, 1) := by decide +kernel
theorem dX0_init_42 : decode cX0_init 42 = .ok (.iconst 0, 1) := by decide +kernel
theorem dX0_init_43 : decode cX0_init 43 = .ok (.iconst 3, 1) := by decide +kernel
theorem dX0_init_44 : decode cX0_init 44 = .ok (.invokespecial 39, 3) := by decide +kernel
theorem dX0_init_47 : decode cX0_init 47 = .ok (.putfield 42, 3) := by decide +kernel
theorem dX0_init_50 : decode cX0_init 50 = .ok (.aload_n 0, 1) := by decide +kernel
theorem dX0_init_51 : decode cX0_init 51 = .ok (.new 37, 3) := by decide +kernel
theorem dX0_init_54 : decode cX0_init 54 = .ok (.dup, 1) := by decide +kernel
theorem dX0_init_55 : decode cX0_init 55 = .ok (.iconst 1, 1) := by decide +kernel
theorem dX0_init_56 : decode cX0_init 56 = .ok (.bipush 11, 2) := by decide +kernel
theorem dX0_init_58 : decode cX0_init 58 = .ok (.invokespecial 39, 3) := by decide +kernel
theorem dX0_init_61 : decode cX0_init 61 = .ok (.putfield 46, 3) := by decide +kernel
theorem dX0_init_64 : decode cX0_init 64 = .ok (.aload_n 0, 1) := by decide +kernel
theorem dX0_init_65 : decode cX0_init 65 = .ok (.new 49, 3) := by decide +kernel
theorem dX0_init_68 : decode cX0_init 68 = .ok (.dup, 1) := by decide +kernel
theorem dX0_init_69 : decode cX0_init 69 = .ok (.invokespecial 51, 3) := by decide +kernel
theorem dX0_init_72 : decode cX0_init 72 = .ok (.putfield 52, 3) := by decide +kernel
theorem dX0_init_75 : decode cX0_init 75 = .ok (.aload_n 0, 1) := by decide +kernel
theorem dX0_init_76 : decode cX0_init 76 = .ok (.bipush 12, 2) := by decide +kernel
theorem dX0_init_78 : decode cX0_init 78 = .ok (.putfield 56, 3) := by decide +kernel
theorem dX0_init_81 : decode cX0_init 81 = .ok (.iconst 0, 1) := by decide +kernel
theorem dX0_init_82 : decode cX0_init 82 = .ok (.istore_n 1, 1) := by decide +kernel
theorem dX0_init_83 : decode cX0_init 83 = .ok (.iload_n 1, 1) := by decide +kernel
theorem dX0_init_84 : decode cX0_init 84 = .ok (.aload_n 0, 1) := by decide +kernel
theorem dX0_init_85 : decode cX0_init 85 = .ok (.getfield 24, 3) := by decide +kernel
theorem dX0_init_88 : decode cX0_init 88 = .ok (.arraylength, 1) := by decide +kernel
theorem dX0_init_89 : decode cX0_init 89 = .ok (.if_icmp .ge 35, 3) := by decide +kernel
theorem dX0_init_92 : decode cX0_init 92 = .ok (.iload_n 1, 1) := by decide +kernel
theorem dX0_init_93 : decode cX0_init 93 = .ok (.getstatic 18, 3) := by decide +kernel
theorem dX0_init_96 : decode cX0_init 96 = .ok (.arraylength, 1) := by decide +kernel
theorem dX0_init_97 : decode cX0_init 97 = .ok (.if_icmp .ge 27, 3) := by decide +kernel
theorem dX0_init_100 : decode cX0_init 100 = .ok (.aload_n 0, 1) := by decide +kernel
theorem dX0_init_101 : decode cX0_init 101 = .ok (.getfield 24, 3) := by decide +kernel
theorem dX0_init_104 : decode cX0_init 104 = .ok (.iload_n 1, 1) := by decide +kernel
theorem dX0_init_105 : decode cX0_init 105 = .ok (.new 22, 3) := by decide +kernel
theorem dX0_init_108 : decode cX0_init 108 = .ok (.dup, 1) := by decide +kernel
theorem dX0_init_109 : decode cX0_init 109 = .ok (.getstatic 18, 3) := by decide +kernel
theorem dX0_init_112 : decode cX0_init 112 = .ok (.iload_n 1, 1) := by decide +kernel
theorem dX0_init_113 : decode cX0_init 113 = .ok (.iaload, 1) := by decide +kernel
theorem dX0_init_114 : decode cX0_init 114 = .ok (.invokespecial 60, 3) := by decide +kernel
theorem dX0_init_117 : decode cX0_init 117 = .ok (.aastore, 1) := by decide +kernel
theorem dX0_init_118 : decode cX0_init 118 = .ok (.iinc 1 1, 3) := by decide +kernel
theorem dX0_init_121 : decode cX0_init 121 = .ok (.goto (-38), 3) := by decide +kernel
theorem dX0_init_124 : decode cX0_init 124 = .ok (.iconst 0, 1) := by decide +kernel
theorem dX0_init_125 : decode cX0_init 125 = .ok (.istore_n 1, 1) := by decide +kernel
theorem dX0_init_126 : decode cX0_init 126 = .ok (.iload_n 1, 1) := by decide +kernel
theorem dX0_init_127 : decode cX0_init 127 = .ok (.aload_n 0, 1) := by decide +kernel
theorem dX0_init_128 : decode cX0_init 128 = .ok (.getfield 33, 3) := by decide +kernel
theorem dX0_init_131 : decode cX0_init 131 = .ok (.arraylength, 1) := by decide +kernel
theorem dX0_init_132 : decode cX0_init 132 = .ok (.if_icmp .ge 35, 3) := by decide +kernel
theorem dX0_init_135 : decode cX0_init 135 = .ok (.iload_n 1, 1) := by decide +kernel
theorem dX0_init_136 : decode cX0_init 136 = .ok (.getstatic 28, 3) := by decide +kernel
theorem dX0_init_139 : decode cX0_init 139 = .ok (.arraylength, 1) := by decide +kernel
theorem dX0_init_140 : decode cX0_init 140 = .ok (.if_icmp .ge 27, 3) := by decide +kernel
theorem dX0_init_143 : decode cX0_init 143 = .ok (.aload_n 0, 1) := by decide +kernel
theorem dX0_init_144 : decode cX0_init 144 = .ok (.getfield 33, 3) := by decide +kernel
theorem dX0_init_147 : decode cX0_init 147 = .ok (.iload_n 1, 1) := by decide +kernel
theorem dX0_init_148 : decode cX0_init 148 = .ok (.new 31, 3) := by decide +kernel
theorem dX0_init_151 : decode cX0_init 151 = .ok (.dup, 1) := by decide +kernel
theorem dX0_init_152 : decode cX0_init 152 = .ok (.getstatic 28, 3) := by decide +kernel
theorem dX0_init_155 : decode cX0_init 155 = .ok (.iload_n 1, 1) := by decide +kernel
theorem dX0_init_156 : decode cX0_init 156 = .ok (.iaload, 1) := by decide +kernel
theorem dX0_init_157 : decode cX0_init 157 = .ok (.invokespecial 63, 3) := by decide +kernel
theorem dX0_init_160 : decode cX0_init 160 = .ok (.aastore, 1) := by decide +kernel
theorem dX0_init_161 : decode cX0_init 161 = .ok (.iinc 1 1, 3) := by decide +kernel
theorem dX0_init_164 : decode cX0_init 164 = .ok (.goto (-38), 3) := by decide +kernel
theorem dX0_init_167 : decode cX0_init 167 = .ok (.return_, 1) := by decide +kernel
theorem dX0_copyFrom_0 : decode cX0_copyFrom 0 = .ok (.aload_n 0, 1) := by decide +kernel
theorem dX0_copyFrom_1 : decode cX0_copyFrom 1 = .ok (.getfield 12, 3) := by decide +kernel
theorem dX0_copyFrom_4 : decode cX0_copyFrom 4 = .ok (.aload_n 1, 1) := by decide +kernel
theorem dX0_copyFrom_5 : decode cX0_copyFrom 5 = .ok (.getfield 12, 3) := by decide +kernel
theorem dX0_copyFrom_8 : decode cX0_copyFrom 8 = .ok (.invokevirtual 64, 3) := by decide +kernel
theorem dX0_copyFrom_11 : decode cX0_copyFrom 11 = .ok (.iconst 0, 1) := by decide +kernel
theorem dX0_copyFrom_12 : decode cX0_copyFrom 12 = .ok (.istore_n 2, 1) := by decide +kernel
theorem dX0_copyFrom_13 : decode cX0_copyFrom 13 = .ok (.iload_n 2, 1) := by decide +kernel
theorem dX0_copyFrom_14 : decode cX0_copyFrom 14 = .ok (.aload_n 0, 1) := by decide +kernel
theorem dX0_copyFrom_15 : decode cX0_copyFrom 15 = .ok (.getfield 24, 3) := by decide +kernel
theorem dX0_copyFrom_18 : decode cX0_copyFrom 18 = .ok (.arraylength, 1) := by decide +kernel
theorem dX0_copyFrom_19 : decode cX0_copyFrom 19 = .ok (.if_icmp .ge 33, 3) := by decide +kernel
theorem dX0_copyFrom_22 : decode cX0_copyFrom 22 = .ok (.iload_n 2, 1) := by decide +kernel
theorem dX0_copyFrom_23 : decode cX0_copyFrom 23 = .ok (.aload_n 1, 1) := by decide +kernel
theorem dX0_copyFrom_24 : decode cX0_copyFrom 24 = .ok (.getfield 24, 3) := by decide +kernel
theorem dX0_copyFrom_27 : decode cX0_copyFrom 27 = .ok (.arraylength, 1) := by decide +kernel
theorem dX0_copyFrom_28 : decode cX0_copyFrom 28 = .ok (.if_icmp .ge 24, 3) := by decide +kernel
theorem dX0_copyFrom_31 : decode cX0_copyFrom 31 = .ok (.aload_n 0, 1) := by decide +kernel
theorem dX0_copyFrom_32 : decode cX0_copyFrom 32 = .ok (.getfield 24, 3) := by decide +kernel
theorem dX0_copyFrom_35 : decode cX0_copyFrom 35 = .ok (.iload_n 2, 1) := by decide +kernel
theorem dX0_copyFrom_36 : decode cX0_copyFrom 36 = .ok (.aaload, 1) := by decide +kernel
theorem dX0_copyFrom_37 : decode cX0_copyFrom 37 = .ok (.aload_n 1, 1) := by decide +kernel
theorem dX0_copyFrom_38 : decode cX0_copyFrom 38 = .ok (.getfield 24, 3) := by decide +kernel
theorem dX0_copyFrom_41 : decode cX0_copyFrom 41 = .ok (.iload_n 2, 1) := by decide +kernel
theorem dX0_copyFrom_42 : decode cX0_copyFrom 42 = .ok (.aaload, 1) := by decide +kernel
theorem dX0_copyFrom_43 : decode cX0_copyFrom 43 = .ok (.invokevirtual 68, 3) := by decide +kernel
theorem dX0_copyFrom_46 : decode cX0_copyFrom 46 = .ok (.iinc 2 1, 3) := by decide +kernel
theorem dX0_copyFrom_49 : decode cX0_copyFrom 49 = .ok (.goto (-36), 3) := by decide +kernel
theorem dX0_copyFrom_52 : decode cX0_copyFrom 52 = .ok (.iconst 0, 1) := by decide +kernel
theorem dX0_copyFrom_53 : decode cX0_copyFrom 53 = .ok (.istore_n 2, 1) := by decide +kernel
theorem dX0_copyFrom_54 : decode cX0_copyFrom 54 = .ok (.iload_n 2, 1) := by decide +kernel
theorem dX0_copyFrom_55 : decode cX0_copyFrom 55 = .ok (.aload_n 0, 1) := by decide +kernel
theorem dX0_copyFrom_56 : decode cX0_copyFrom 56 = .ok (.getfield 33, 3) := by decide +kernel
theorem dX0_copyFrom_59 : decode cX0_copyFrom 59 = .ok (.arraylength, 1) := by decide +kernel
theorem dX0_copyFrom_60 : decode cX0_copyFrom 60 = .ok (.if_icmp .ge 33, 3) := by decide +kernel
theorem dX0_copyFrom_63 : decode cX0_copyFrom 63 = .ok (.iload_n 2, 1) := by decide +kernel
theorem dX0_copyFrom_64 : decode cX0_copyFrom 64 = .ok (.aload_n 1, 1) := by decide +kernel
theorem dX0_copyFrom_65 : decode cX0_copyFrom 65 = .ok (.getfield 33, 3) := by decide +kernel
theorem dX0_copyFrom_68 : decode cX0_copyFrom 68 = .ok (.arraylength, 1) := by decide +kernel
theorem dX0_copyFrom_69 : decode cX0_copyFrom 69 = .ok (.if_icmp .ge 24, 3) := by decide +kernel
theorem dX0_copyFrom_72 : decode cX0_copyFrom 72 = .ok (.aload_n 0, 1) := by decide +kernel
theorem dX0_copyFrom_73 : decode cX0_copyFrom 73 = .ok (.getfield 33, 3) := by decide +kernel
theorem dX0_copyFrom_76 : decode cX0_copyFrom 76 = .ok (.iload_n 2, 1) := by decide +kernel
theorem dX0_copyFrom_77 : decode cX0_copyFrom 77 = .ok (.aaload, 1) := by decide +kernel
theorem dX0_copyFrom_78 : decode cX0_copyFrom 78 = .ok (.aload_n 1, 1) := by decide +kernel
theorem dX0_copyFrom_79 : decode cX0_copyFrom 79 = .ok (.getfield 33, 3) := by decide +kernel
theorem dX0_copyFrom_82 : decode cX0_copyFrom 82 = .ok (.iload_n 2, 1) := by decide +kernel
theorem dX0_copyFrom_83 : decode cX0_copyFrom 83 = .ok (.aaload, 1) := by decide +kernel
theorem dX0_copyFrom_84 : decode cX0_copyFrom 84 = .ok (.invokevirtual 71, 3) := by decide +kernel
theorem dX0_copyFrom_87 : decode cX0_copyFrom 87 = .ok (.iinc 2 1, 3) := by decide +kernel
theorem dX0_copyFrom_90 : decode cX0_copyFrom 90 = .ok (.goto (-36), 3) := by decide +kernel
theorem dX0_copyFrom_93 : decode cX0_copyFrom 93 = .ok (.aload_n 0, 1) := by decide +kernel
theorem dX0_copyFrom_94 : decode cX0_copyFrom 94 = .ok (.getfield 42, 3) := by decide +kernel
theorem dX0_copyFrom_97 : decode cX0_copyFrom 97 = .ok (.aload_n 1, 1) := by decide +kernel
theorem dX0_copyFrom_98 : decode cX0_copyFrom 98 = .ok (.getfield 42, 3) := by decide +kernel
theorem dX0_copyFrom_101 : decode cX0_copyFrom 101 = .ok (.invokevirtual 74, 3) := by decide +kernel
theorem dX0_copyFrom_104 : decode cX0_copyFrom 104 = .ok (.aload_n 0, 1) := by decide +kernel
theorem dX0_copyFrom_105 : decode cX0_copyFrom 105 = .ok (.getfield 46, 3) := by decide +kernel
theorem dX0_copyFrom_108 : decode cX0_copyFrom 108 = .ok (.aload_n 1, 1) := by decide +kernel
theorem dX0_copyFrom_109 : decode cX0_copyFrom 109 = .ok (.getfield 46, 3) := by decide +kernel
theorem dX0_copyFrom_112 : decode cX0_copyFrom 112 = .ok (.invokevirtual 74, 3) := by decide +kernel
theorem dX0_copyFrom_115 : decode cX0_copyFrom 115 = .ok (.aload_n 0, 1) := by decide +kernel
theorem dX0_copyFrom_116 : decode cX0_copyFrom 116 = .ok (.getfield 52, 3) := by decide +kernel
theorem dX0_copyFrom_119 : decode cX0_copyFrom 119 = .ok (.aload_n 1, 1) := by decide +kernel
theorem dX0_copyFrom_120 : decode cX0_copyFrom 120 = .ok (.getfield 52, 3) := by decide +kernel
theorem dX0_copyFrom_123 : decode cX0_copyFrom 123 = .ok (.invokevirtual 77, 3) := by decide +kernel
theorem dX0_copyFrom_126 : decode cX0_copyFrom 126 = .ok (.aload_n 0, 1) := by decide +kernel
theorem dX0_copyFrom_127 : decode cX0_copyFrom 127 = .ok (.aload_n 1, 1) := by decide +kernel
theorem dX0_copyFrom_128 : decode cX0_copyFrom 128 = .ok (.getfield 80, 3) := by decide +kernel
theorem dX0_copyFrom_131 : decode cX0_copyFrom 131 = .ok (.putfield 80, 3) := by decide +kernel
theorem dX0_copyFrom_134 : decode cX0_copyFrom 134 = .ok (.aload_n 0, 1) := by decide +kernel
theorem dX0_copyFrom_135 : decode cX0_copyFrom 135 = .ok (.aload_n 1, 1) := by decide +kernel
theorem dX0_copyFrom_136 : decode cX0_copyFrom 136 = .ok (.getfield 56, 3) := by decide +kernel
theorem dX0_copyFrom_139 : decode cX0_copyFrom 139 = .ok (.putfield 56, 3) := by decide +kernel
theorem dX0_copyFrom_142 : decode cX0_copyFrom 142 = .ok (.aload_n 0, 1) := by decide +kernel
theorem dX0_copyFrom_143 : decode cX0_copyFrom 143 = .ok (.aload_n 1, 1) := by decide +kernel
theorem dX0_copyFrom_144 : decode cX0_copyFrom 144 = .ok (.getfield 83, 3) := by decide +kernel
theorem dX0_copyFrom_147 : decode cX0_copyFrom 147 = .ok (.putfield 83, 3) := by decide +kernel
theorem dX0_copyFrom_150 : decode cX0_copyFrom 150 = .ok (.return_, 1) := by decide +kernel
theorem dX0_vesselNumbered_0 : decode cX0_vesselNumbered 0 = .ok (.iconst 0, 1) := by decide +kernel
theorem dX0_vesselNumbered_1 : decode cX0_vesselNumbered 1 = .ok (.iload_n 1, 1) := by decide +kernel
theorem dX0_vesselNumbered_2 : decode cX0_vesselNumbered 2 = .ok (.aload_n 0, 1) := by decide +kernel
theorem dX0_vesselNumbered_3 : decode cX0_vesselNumbered 3 = .ok (.getfield 24, 3) := by decide +kernel
theorem dX0_vesselNumbered_6 : decode cX0_vesselNumbered 6 = .ok (.arraylength, 1) := by decide +kernel
theorem dX0_vesselNumbered_7 : decode cX0_vesselNumbered 7 = .ok (.iconst 1, 1) := by decide +kernel
theorem dX0_vesselNumbered_8 : decode cX0_vesselNumbered 8 = .ok (.isub, 1) := by decide +kernel
theorem dX0_vesselNumbered_9 : decode cX0_vesselNumbered 9 = .ok (.invokestatic 87, 3) := by decide +kernel
theorem dX0_vesselNumbered_12 : decode cX0_vesselNumbered 12 = .ok (.ifCond .eq 12, 3) := by decide +kernel
theorem dX0_vesselNumbered_15 : decode cX0_vesselNumbered 15 = .ok (.aload_n 0, 1) := by decide +kernel
theorem dX0_vesselNumbered_16 : decode cX0_vesselNumbered 16 = .ok (.getfield 24, 3) := by decide +kernel
theorem dX0_vesselNumbered_19 : decode cX0_vesselNumbered 19 = .ok (.iload_n 1, 1) := by decide +kernel
theorem dX0_vesselNumbered_20 : decode cX0_vesselNumbered 20 = .ok (.aaload, 1) := by decide +kernel
theorem dX0_vesselNumbered_21 : decode cX0_vesselNumbered 21 = .ok (.goto 4, 3) := by decide +kernel
theorem dX0_vesselNumbered_24 : decode cX0_vesselNumbered 24 = .ok (.aconst_null, 1) := by decide +kernel
theorem dX0_vesselNumbered_25 : decode cX0_vesselNumbered 25 = .ok (.areturn, 1) := by decide +kernel
theorem dX0_vesselAt_0 : decode cX0_vesselAt 0 = .ok (.aload_n 0, 1) := by decide +kernel
theorem dX0_vesselAt_1 : decode cX0_vesselAt 1 = .ok (.getfield 24, 3) := by decide +kernel
theorem dX0_vesselAt_4 : decode cX0_vesselAt 4 = .ok (.astore_n 2, 1) := by decide +kernel
theorem dX0_vesselAt_5 : decode cX0_vesselAt 5 = .ok (.aload_n 2, 1) := by decide +kernel
theorem dX0_vesselAt_6 : decode cX0_vesselAt 6 = .ok (.arraylength, 1) := by decide +kernel
theorem dX0_vesselAt_7 : decode cX0_vesselAt 7 = .ok (.istore_n 3, 1) := by decide +kernel
theorem dX0_vesselAt_8 : decode cX0_vesselAt 8 = .ok (.iconst 0, 1) := by decide +kernel
theorem dX0_vesselAt_9 : decode cX0_vesselAt 9 = .ok (.istore 4, 2) := by decide +kernel
theorem dX0_vesselAt_11 : decode cX0_vesselAt 11 = .ok (.iload 4, 2) := by decide +kernel
theorem dX0_vesselAt_13 : decode cX0_vesselAt 13 = .ok (.iload_n 3, 1) := by decide +kernel
theorem dX0_vesselAt_14 : decode cX0_vesselAt 14 = .ok (.if_icmp .ge 27, 3) := by decide +kernel
theorem dX0_vesselAt_17 : decode cX0_vesselAt 17 = .ok (.aload_n 2, 1) := by decide +kernel
theorem dX0_vesselAt_18 : decode cX0_vesselAt 18 = .ok (.iload 4, 2) := by decide +kernel
theorem dX0_vesselAt_20 : decode cX0_vesselAt 20 = .ok (.aaload, 1) := by decide +kernel
theorem dX0_vesselAt_21 : decode cX0_vesselAt 21 = .ok (.astore 5, 2) := by decide +kernel
theorem dX0_vesselAt_23 : decode cX0_vesselAt 23 = .ok (.aload 5, 2) := by decide +kernel
theorem dX0_vesselAt_25 : decode cX0_vesselAt 25 = .ok (.getfield 91, 3) := by decide +kernel
theorem dX0_vesselAt_28 : decode cX0_vesselAt 28 = .ok (.iload_n 1, 1) := by decide +kernel
theorem dX0_vesselAt_29 : decode cX0_vesselAt 29 = .ok (.if_icmp .ne 6, 3) := by decide +kernel
theorem dX0_vesselAt_32 : decode cX0_vesselAt 32 = .ok (.aload 5, 2) := by decide +kernel
theorem dX0_vesselAt_34 : decode cX0_vesselAt 34 = .ok (.areturn, 1) := by decide +kernel
theorem dX0_vesselAt_35 : decode cX0_vesselAt 35 = .ok (.iinc 4 1, 3) := by decide +kernel
theorem dX0_vesselAt_38 : decode cX0_vesselAt 38 = .ok (.goto (-27), 3) := by decide +kernel
theorem dX0_vesselAt_41 : decode cX0_vesselAt 41 = .ok (.aconst_null, 1) := by decide +kernel
theorem dX0_vesselAt_42 : decode cX0_vesselAt 42 = .ok (.areturn, 1) := by decide +kernel
theorem dX0_isFloor_0 : decode cX0_isFloor 0 = .ok (.iload_n 1, 1) := by decide +kernel
theorem dX0_isFloor_1 : decode cX0_isFloor 1 = .ok (.ifCond .eq 26, 3) := by decide +kernel
theorem dX0_isFloor_4 : decode cX0_isFloor 4 = .ok (.iload_n 1, 1) := by decide +kernel
theorem dX0_isFloor_5 : decode cX0_isFloor 5 = .ok (.iconst 2, 1) := by decide +kernel
theorem dX0_isFloor_6 : decode cX0_isFloor 6 = .ok (.if_icmp .eq 21, 3) := by decide +kernel
theorem dX0_isFloor_9 : decode cX0_isFloor 9 = .ok (.iload_n 1, 1) := by decide +kernel
theorem dX0_isFloor_10 : decode cX0_isFloor 10 = .ok (.bipush 15, 2) := by decide +kernel
theorem dX0_isFloor_12 : decode cX0_isFloor 12 = .ok (.if_icmp .eq 15, 3) := by decide +kernel
theorem dX0_isFloor_15 : decode cX0_isFloor 15 = .ok (.aload_n 0, 1) := by decide +kernel
theorem dX0_isFloor_16 : decode cX0_isFloor 16 = .ok (.iload_n 1, 1) := by decide +kernel
theorem dX0_isFloor_17 : decode cX0_isFloor 17 = .ok (.invokevirtual 94, 3) := by decide +kernel
theorem dX0_isFloor_20 : decode cX0_isFloor 20 = .ok (.ifnonnull 7, 3) := by decide +kernel
theorem dX0_isFloor_23 : decode cX0_isFloor 23 = .ok (.iconst 1, 1) := by decide +kernel
theorem dX0_isFloor_24 : decode cX0_isFloor 24 = .ok (.goto 4, 3) := by decide +kernel
theorem dX0_isFloor_27 : decode cX0_isFloor 27 = .ok (.iconst 0, 1) := by decide +kernel
theorem dX0_isFloor_28 : decode cX0_isFloor 28 = .ok (.ireturn, 1) := by decide +kernel
theorem dX0_ladleNumbered_0 : decode cX0_ladleNumbered 0 = .ok (.iconst 0, 1) := by decide +kernel
theorem dX0_ladleNumbered_1 : decode cX0_ladleNumbered 1 = .ok (.iload_n 1, 1) := by decide +kernel
theorem dX0_ladleNumbered_2 : decode cX0_ladleNumbered 2 = .ok (.aload_n 0, 1) := by decide +kernel
theorem dX0_ladleNumbered_3 : decode cX0_ladleNumbered 3 = .ok (.getfield 33, 3) := by decide +kernel
theorem dX0_ladleNumbered_6 : decode cX0_ladleNumbered 6 = .ok (.arraylength, 1) := by decide +kernel
theorem dX0_ladleNumbered_7 : decode cX0_ladleNumbered 7 = .ok (.iconst 1, 1) := by decide +kernel
theorem dX0_ladleNumbered_8 : decode cX0_ladleNumbered 8 = .ok (.isub, 1) := by decide +kernel
theorem dX0_ladleNumbered_9 : decode cX0_ladleNumbered 9 = .ok (.invokestatic 87, 3) := by decide +kernel
theorem dX0_ladleNumbered_12 : decode cX0_ladleNumbered 12 = .ok (.ifCond .eq 12, 3) := by decide +kernel
theorem dX0_ladleNumbered_15 : decode cX0_ladleNumbered 15 = .ok (.aload_n 0, 1) := by decide +kernel
theorem dX0_ladleNumbered_16 : decode cX0_ladleNumbered 16 = .ok (.getfield 33, 3) := by decide +kernel
theorem dX0_ladleNumbered_19 : decode cX0_ladleNumbered 19 = .ok (.iload_n 1, 1) := by decide +kernel
theorem dX0_ladleNumbered_20 : decode cX0_ladleNumbered 20 = .ok (.aaload, 1) := by decide +kernel
theorem dX0_ladleNumbered_21 : decode cX0_ladleNumbered 21 = .ok (.goto 4, 3) := by decide +kernel
theorem dX0_ladleNumbered_24 : decode cX0_ladleNumbered 24 = .ok (.aconst_null, 1) := by decide +kernel
theorem dX0_ladleNumbered_25 : decode cX0_ladleNumbered 25 = .ok (.areturn, 1) := by decide +kernel
theorem dX0_numberOfLadleOn_0 : decode cX0_numberOfLadleOn 0 = .ok (.iconst 0, 1) := by decide +kernel
theorem dX0_numberOfLadleOn_1 : decode cX0_numberOfLadleOn 1 = .ok (.istore_n 2, 1) := by decide +kernel
theorem dX0_numberOfLadleOn_2 : decode cX0_numberOfLadleOn 2 = .ok (.iload_n 2, 1) := by decide +kernel
theorem dX0_numberOfLadleOn_3 : decode cX0_numberOfLadleOn 3 = .ok (.aload_n 0, 1) := by decide +kernel
theorem dX0_numberOfLadleOn_4 : decode cX0_numberOfLadleOn 4 = .ok (.getfield 33, 3) := by decide +kernel
theorem dX0_numberOfLadleOn_7 : decode cX0_numberOfLadleOn 7 = .ok (.arraylength, 1) := by decide +kernel
theorem dX0_numberOfLadleOn_8 : decode cX0_numberOfLadleOn 8 = .ok (.if_icmp .ge 27, 3) := by decide +kernel
theorem dX0_numberOfLadleOn_11 : decode cX0_numberOfLadleOn 11 = .ok (.aload_n 0, 1) := by decide +kernel
theorem dX0_numberOfLadleOn_12 : decode cX0_numberOfLadleOn 12 = .ok (.getfield 33, 3) := by decide +kernel
theorem dX0_numberOfLadleOn_15 : decode cX0_numberOfLadleOn 15 = .ok (.iload_n 2, 1) := by decide +kernel
theorem dX0_numberOfLadleOn_16 : decode cX0_numberOfLadleOn 16 = .ok (.aaload, 1) := by decide +kernel
theorem dX0_numberOfLadleOn_17 : decode cX0_numberOfLadleOn 17 = .ok (.getfield 98, 3) := by decide +kernel
theorem dX0_numberOfLadleOn_20 : decode cX0_numberOfLadleOn 20 = .ok (.aload_n 1, 1) := by decide +kernel
theorem dX0_numberOfLadleOn_21 : decode cX0_numberOfLadleOn 21 = .ok (.getfield 101, 3) := by decide +kernel
theorem dX0_numberOfLadleOn_24 : decode cX0_numberOfLadleOn 24 = .ok (.if_icmp .ne 5, 3) := by decide +kernel
theorem dX0_numberOfLadleOn_27 : decode cX0_numberOfLadleOn 27 = .ok (.iload_n 2, 1) := by decide +kernel
theorem dX0_numberOfLadleOn_28 : decode cX0_numberOfLadleOn 28 = .ok (.ireturn, 1) := by decide +kernel
theorem dX0_numberOfLadleOn_29 : decode cX0_numberOfLadleOn 29 = .ok (.iinc 2 1, 3) := by decide +kernel
theorem dX0_numberOfLadleOn_32 : decode cX0_numberOfLadleOn 32 = .ok (.goto (-30), 3) := by decide +kernel
theorem dX0_numberOfLadleOn_35 : decode cX0_numberOfLadleOn 35 = .ok (.bipush (-4), 2) := by decide +kernel
theorem dX0_numberOfLadleOn_37 : decode cX0_numberOfLadleOn 37 = .ok (.ireturn, 1) := by decide +kernel
theorem dX0_ladleStandingAt_0 : decode cX0_ladleStandingAt 0 = .ok (.aload_n 0, 1) := by decide +kernel
theorem dX0_ladleStandingAt_1 : decode cX0_ladleStandingAt 1 = .ok (.getfield 33, 3) := by decide +kernel
theorem dX0_ladleStandingAt_4 : decode cX0_ladleStandingAt 4 = .ok (.astore_n 2, 1) := by decide +kernel
theorem dX0_ladleStandingAt_5 : decode cX0_ladleStandingAt 5 = .ok (.aload_n 2, 1) := by decide +kernel
theorem dX0_ladleStandingAt_6 : decode cX0_ladleStandingAt 6 = .ok (.arraylength, 1) := by decide +kernel
theorem dX0_ladleStandingAt_7 : decode cX0_ladleStandingAt 7 = .ok (.istore_n 3, 1) := by decide +kernel
theorem dX0_ladleStandingAt_8 : decode cX0_ladleStandingAt 8 = .ok (.iconst 0, 1) := by decide +kernel
theorem dX0_ladleStandingAt_9 : decode cX0_ladleStandingAt 9 = .ok (.istore 4, 2) := by decide +kernel
theorem dX0_ladleStandingAt_11 : decode cX0_ladleStandingAt 11 = .ok (.iload 4, 2) := by decide +kernel
theorem dX0_ladleStandingAt_13 : decode cX0_ladleStandingAt 13 = .ok (.iload_n 3, 1) := by decide +kernel
theorem dX0_ladleStandingAt_14 : decode cX0_ladleStandingAt 14 = .ok (.if_icmp .ge 37, 3) := by decide +kernel
theorem dX0_ladleStandingAt_17 : decode cX0_ladleStandingAt 17 = .ok (.aload_n 2, 1) := by decide +kernel
theorem dX0_ladleStandingAt_18 : decode cX0_ladleStandingAt 18 = .ok (.iload 4, 2) := by decide +kernel
theorem dX0_ladleStandingAt_20 : decode cX0_ladleStandingAt 20 = .ok (.aaload, 1) := by decide +kernel
theorem dX0_ladleStandingAt_21 : decode cX0_ladleStandingAt 21 = .ok (.astore 5, 2) := by decide +kernel
theorem dX0_ladleStandingAt_23 : decode cX0_ladleStandingAt 23 = .ok (.aload 5, 2) := by decide +kernel
theorem dX0_ladleStandingAt_25 : decode cX0_ladleStandingAt 25 = .ok (.getfield 98, 3) := by decide +kernel
theorem dX0_ladleStandingAt_28 : decode cX0_ladleStandingAt 28 = .ok (.bipush (-4), 2) := by decide +kernel
theorem dX0_ladleStandingAt_30 : decode cX0_ladleStandingAt 30 = .ok (.if_icmp .ne 15, 3) := by decide +kernel
theorem dX0_ladleStandingAt_33 : decode cX0_ladleStandingAt 33 = .ok (.aload 5, 2) := by decide +kernel
theorem dX0_ladleStandingAt_35 : decode cX0_ladleStandingAt 35 = .ok (.getfield 104, 3) := by decide +kernel
theorem dX0_ladleStandingAt_38 : decode cX0_ladleStandingAt 38 = .ok (.iload_n 1, 1) := by decide +kernel
theorem dX0_ladleStandingAt_39 : decode cX0_ladleStandingAt 39 = .ok (.if_icmp .ne 6, 3) := by decide +kernel
theorem dX0_ladleStandingAt_42 : decode cX0_ladleStandingAt 42 = .ok (.aload 5, 2) := by decide +kernel
theorem dX0_ladleStandingAt_44 : decode cX0_ladleStandingAt 44 = .ok (.areturn, 1) := by decide +kernel
theorem dX0_ladleStandingAt_45 : decode cX0_ladleStandingAt 45 = .ok (.iinc 4 1, 3) := by decide +kernel
theorem dX0_ladleStandingAt_48 : decode cX0_ladleStandingAt 48 = .ok (.goto (-37), 3) := by decide +kernel
theorem dX0_ladleStandingAt_51 : decode cX0_ladleStandingAt 51 = .ok (.aconst_null, 1) := by decide +kernel
theorem dX0_ladleStandingAt_52 : decode cX0_ladleStandingAt 52 = .ok (.areturn, 1) := by decide +kernel
theorem dX0_craneNumbered_0 : decode cX0_craneNumbered 0 = .ok (.iload_n 1, 1) := by decide +kernel
theorem dX0_craneNumbered_1 : decode cX0_craneNumbered 1 = .ok (.lookupswitch 37 #[(0, 27), (1, 32)], 27) := by decide +kernel
theorem dX0_craneNumbered_28 : decode cX0_craneNumbered 28 = .ok (.aload_n 0, 1) := by decide +kernel
theorem dX0_craneNumbered_29 : decode cX0_craneNumbered 29 = .ok (.getfield 42, 3) := by decide +kernel
theorem dX0_craneNumbered_32 : decode cX0_craneNumbered 32 = .ok (.areturn, 1) := by decide +kernel
theorem dX0_craneNumbered_33 : decode cX0_craneNumbered 33 = .ok (.aload_n 0, 1) := by decide +kernel
theorem dX0_craneNumbered_34 : decode cX0_craneNumbered 34 = .ok (.getfield 46, 3) := by decide +kernel
theorem dX0_craneNumbered_37 : decode cX0_craneNumbered 37 = .ok (.areturn, 1) := by decide +kernel
theorem dX0_craneNumbered_38 : decode cX0_craneNumbered 38 = .ok (.aconst_null, 1) := by decide +kernel
theorem dX0_craneNumbered_39 : decode cX0_craneNumbered 39 = .ok (.areturn, 1) := by decide +kernel
theorem dX0_hasOrders_0 : decode cX0_hasOrders 0 = .ok (.aload_n 0, 1) := by decide +kernel
theorem dX0_hasOrders_1 : decode cX0_hasOrders 1 = .ok (.getfield 42, 3) := by decide +kernel
theorem dX0_hasOrders_4 : decode cX0_hasOrders 4 = .ok (.getfield 105, 3) := by decide +kernel
theorem dX0_hasOrders_7 : decode cX0_hasOrders 7 = .ok (.ifCond .gt 13, 3) := by decide +kernel
theorem dX0_hasOrders_10 : decode cX0_hasOrders 10 = .ok (.aload_n 0, 1) := by decide +kernel
theorem dX0_hasOrders_11 : decode cX0_hasOrders 11 = .ok (.getfield 46, 3) := by decide +kernel
theorem dX0_hasOrders_14 : decode cX0_hasOrders 14 = .ok (.getfield 105, 3) := by decide +kernel
theorem dX0_hasOrders_17 : decode cX0_hasOrders 17 = .ok (.ifCond .le 7, 3) := by decide +kernel
theorem dX0_hasOrders_20 : decode cX0_hasOrders 20 = .ok (.iconst 1, 1) := by decide +kernel
theorem dX0_hasOrders_21 : decode cX0_hasOrders 21 = .ok (.goto 4, 3) := by decide +kernel
theorem dX0_hasOrders_24 : decode cX0_hasOrders 24 = .ok (.iconst 0, 1) := by decide +kernel
theorem dX0_hasOrders_25 : decode cX0_hasOrders 25 = .ok (.ireturn, 1) := by decide +kernel
theorem dX0_stuffAt_0 : decode cX0_stuffAt 0 = .ok (.iload_n 1, 1) := by decide +kernel
theorem dX0_stuffAt_1 : decode cX0_stuffAt 1 = .ok (.tableswitch 182 0 10 #[59, 68, 74, 80, 86, 110, 122, 134, 146, 158, 170], 59) := by decide +kernel
theorem dX0_stuffAt_60 : decode cX0_stuffAt 60 = .ok (.aload_n 0, 1) := by decide +kernel
theorem dX0_stuffAt_61 : decode cX0_stuffAt 61 = .ok (.getfield 12, 3) := by decide +kernel
theorem dX0_stuffAt_64 : decode cX0_stuffAt 64 = .ok (.iload_n 2, 1) := by decide +kernel
theorem dX0_stuffAt_65 : decode cX0_stuffAt 65 = .ok (.invokevirtual 108, 3) := by decide +kernel
theorem dX0_stuffAt_68 : decode cX0_stuffAt 68 = .ok (.ireturn, 1) := by decide +kernel
theorem dX0_stuffAt_69 : decode cX0_stuffAt 69 = .ok (.aload_n 0, 1) := by decide +kernel
theorem dX0_stuffAt_70 : decode cX0_stuffAt 70 = .ok (.iload_n 2, 1) := by decide +kernel
theorem dX0_stuffAt_71 : decode cX0_stuffAt 71 = .ok (.invokevirtual 112, 3) := by decide +kernel
theorem dX0_stuffAt_74 : decode cX0_stuffAt 74 = .ok (.ireturn, 1) := by decide +kernel
theorem dX0_stuffAt_75 : decode cX0_stuffAt 75 = .ok (.aload_n 0, 1) := by decide +kernel
theorem dX0_stuffAt_76 : decode cX0_stuffAt 76 = .ok (.iload_n 2, 1) := by decide +kernel
theorem dX0_stuffAt_77 : decode cX0_stuffAt 77 = .ok (.invokevirtual 115, 3) := by decide +kernel
theorem dX0_stuffAt_80 : decode cX0_stuffAt 80 = .ok (.ireturn, 1) := by decide +kernel
theorem dX0_stuffAt_81 : decode cX0_stuffAt 81 = .ok (.aload_n 0, 1) := by decide +kernel
theorem dX0_stuffAt_82 : decode cX0_stuffAt 82 = .ok (.iload_n 2, 1) := by decide +kernel
theorem dX0_stuffAt_83 : decode cX0_stuffAt 83 = .ok (.invokevirtual 118, 3) := by decide +kernel
theorem dX0_stuffAt_86 : decode cX0_stuffAt 86 = .ok (.ireturn, 1) := by decide +kernel
theorem dX0_stuffAt_87 : decode cX0_stuffAt 87 = .ok (.iload_n 2, 1) := by decide +kernel
theorem dX0_stuffAt_88 : decode cX0_stuffAt 88 = .ok (.iconst 1, 1) := by decide +kernel
theorem dX0_stuffAt_89 : decode cX0_stuffAt 89 = .ok (.if_icmp .ne 20, 3) := by decide +kernel
theorem dX0_stuffAt_92 : decode cX0_stuffAt 92 = .ok (.aload_n 0, 1) := by decide +kernel
theorem dX0_stuffAt_93 : decode cX0_stuffAt 93 = .ok (.getfield 80, 3) := by decide +kernel
theorem dX0_stuffAt_96 : decode cX0_stuffAt 96 = .ok (.iconst 5, 1) := by decide +kernel
theorem dX0_stuffAt_97 : decode cX0_stuffAt 97 = .ok (.aload_n 0, 1) := by decide +kernel
theorem dX0_stuffAt_98 : decode cX0_stuffAt 98 = .ok (.getfield 52, 3) := by decide +kernel
theorem dX0_stuffAt_101 : decode cX0_stuffAt 101 = .ok (.getfield 121, 3) := by decide +kernel
theorem dX0_stuffAt_104 : decode cX0_stuffAt 104 = .ok (.imul, 1) := by decide +kernel
theorem dX0_stuffAt_105 : decode cX0_stuffAt 105 = .ok (.iadd, 1) := by decide +kernel
theorem dX0_stuffAt_106 : decode cX0_stuffAt 106 = .ok (.goto 4, 3) := by decide +kernel
theorem dX0_stuffAt_109 : decode cX0_stuffAt 109 = .ok (.iconst 0, 1) := by decide +kernel
theorem dX0_stuffAt_110 : decode cX0_stuffAt 110 = .ok (.ireturn, 1) := by decide +kernel
theorem dX0_stuffAt_111 : decode cX0_stuffAt 111 = .ok (.aload_n 0, 1) := by decide +kernel
theorem dX0_stuffAt_112 : decode cX0_stuffAt 112 = .ok (.getfield 52, 3) := by decide +kernel
theorem dX0_stuffAt_115 : decode cX0_stuffAt 115 = .ok (.getfield 124, 3) := by decide +kernel
theorem dX0_stuffAt_118 : decode cX0_stuffAt 118 = .ok (.iload_n 2, 1) := by decide +kernel
theorem dX0_stuffAt_119 : decode cX0_stuffAt 119 = .ok (.invokevirtual 108, 3) := by decide +kernel
theorem dX0_stuffAt_122 : decode cX0_stuffAt 122 = .ok (.ireturn, 1) := by decide +kernel
theorem dX0_stuffAt_123 : decode cX0_stuffAt 123 = .ok (.aload_n 0, 1) := by decide +kernel
theorem dX0_stuffAt_124 : decode cX0_stuffAt 124 = .ok (.getfield 52, 3) := by decide +kernel
theorem dX0_stuffAt_127 : decode cX0_stuffAt 127 = .ok (.getfield 127, 3) := by decide +kernel
theorem dX0_stuffAt_130 : decode cX0_stuffAt 130 = .ok (.iload_n 2, 1) := by decide +kernel
theorem dX0_stuffAt_131 : decode cX0_stuffAt 131 = .ok (.invokevirtual 108, 3) := by decide +kernel
theorem dX0_stuffAt_134 : decode cX0_stuffAt 134 = .ok (.ireturn, 1) := by decide +kernel
theorem dX0_stuffAt_135 : decode cX0_stuffAt 135 = .ok (.aload_n 0, 1) := by decide +kernel
theorem dX0_stuffAt_136 : decode cX0_stuffAt 136 = .ok (.getfield 52, 3) := by decide +kernel
theorem dX0_stuffAt_139 : decode cX0_stuffAt 139 = .ok (.getfield 130, 3) := by decide +kernel
theorem dX0_stuffAt_142 : decode cX0_stuffAt 142 = .ok (.iload_n 2, 1) := by decide +kernel
theorem dX0_stuffAt_143 : decode cX0_stuffAt 143 = .ok (.invokevirtual 108, 3) := by decide +kernel
theorem dX0_stuffAt_146 : decode cX0_stuffAt 146 = .ok (.ireturn, 1) := by decide +kernel
theorem dX0_stuffAt_147 : decode cX0_stuffAt 147 = .ok (.aload_n 0, 1) := by decide +kernel
theorem dX0_stuffAt_148 : decode cX0_stuffAt 148 = .ok (.getfield 52, 3) := by decide +kernel
theorem dX0_stuffAt_151 : decode cX0_stuffAt 151 = .ok (.getfield 133, 3) := by decide +kernel
theorem dX0_stuffAt_154 : decode cX0_stuffAt 154 = .ok (.iload_n 2, 1) := by decide +kernel
theorem dX0_stuffAt_155 : decode cX0_stuffAt 155 = .ok (.invokevirtual 108, 3) := by decide +kernel
theorem dX0_stuffAt_158 : decode cX0_stuffAt 158 = .ok (.ireturn, 1) := by decide +kernel
theorem dX0_stuffAt_159 : decode cX0_stuffAt 159 = .ok (.aload_n 0, 1) := by decide +kernel
theorem dX0_stuffAt_160 : decode cX0_stuffAt 160 = .ok (.getfield 52, 3) := by decide +kernel
theorem dX0_stuffAt_163 : decode cX0_stuffAt 163 = .ok (.getfield 136, 3) := by decide +kernel
theorem dX0_stuffAt_166 : decode cX0_stuffAt 166 = .ok (.iload_n 2, 1) := by decide +kernel
theorem dX0_stuffAt_167 : decode cX0_stuffAt 167 = .ok (.invokevirtual 108, 3) := by decide +kernel
theorem dX0_stuffAt_170 : decode cX0_stuffAt 170 = .ok (.ireturn, 1) := by decide +kernel
theorem dX0_stuffAt_171 : decode cX0_stuffAt 171 = .ok (.aload_n 0, 1) := by decide +kernel
theorem dX0_stuffAt_172 : decode cX0_stuffAt 172 = .ok (.getfield 52, 3) := by decide +kernel
theorem dX0_stuffAt_175 : decode cX0_stuffAt 175 = .ok (.getfield 139, 3) := by decide +kernel
theorem dX0_stuffAt_178 : decode cX0_stuffAt 178 = .ok (.iload_n 2, 1) := by decide +kernel
theorem dX0_stuffAt_179 : decode cX0_stuffAt 179 = .ok (.invokevirtual 108, 3) := by decide +kernel
theorem dX0_stuffAt_182 : decode cX0_stuffAt 182 = .ok (.ireturn, 1) := by decide +kernel
theorem dX0_stuffAt_183 : decode cX0_stuffAt 183 = .ok (.iconst (-1), 1) := by decide +kernel
theorem dX0_stuffAt_184 : decode cX0_stuffAt 184 = .ok (.ireturn, 1) := by decide +kernel
theorem dX0_inVessels_0 : decode cX0_inVessels 0 = .ok (.iconst 0, 1) := by decide +kernel
theorem dX0_inVessels_1 : decode cX0_inVessels 1 = .ok (.istore_n 2, 1) := by decide +kernel
theorem dX0_inVessels_2 : decode cX0_inVessels 2 = .ok (.aload_n 0, 1) := by decide +kernel
theorem dX0_inVessels_3 : decode cX0_inVessels 3 = .ok (.getfield 24, 3) := by decide +kernel
theorem dX0_inVessels_6 : decode cX0_inVessels 6 = .ok (.astore_n 3, 1) := by decide +kernel
theorem dX0_inVessels_7 : decode cX0_inVessels 7 = .ok (.aload_n 3, 1) := by decide +kernel
theorem dX0_inVessels_8 : decode cX0_inVessels 8 = .ok (.arraylength, 1) := by decide +kernel
theorem dX0_inVessels_9 : decode cX0_inVessels 9 = .ok (.istore 4, 2) := by decide +kernel
theorem dX0_inVessels_11 : decode cX0_inVessels 11 = .ok (.iconst 0, 1) := by decide +kernel
theorem dX0_inVessels_12 : decode cX0_inVessels 12 = .ok (.istore 5, 2) := by decide +kernel
theorem dX0_inVessels_14 : decode cX0_inVessels 14 = .ok (.iload 5, 2) := by decide +kernel
theorem dX0_inVessels_16 : decode cX0_inVessels 16 = .ok (.iload 4, 2) := by decide +kernel
theorem dX0_inVessels_18 : decode cX0_inVessels 18 = .ok (.if_icmp .ge 27, 3) := by decide +kernel
theorem dX0_inVessels_21 : decode cX0_inVessels 21 = .ok (.aload_n 3, 1) := by decide +kernel
theorem dX0_inVessels_22 : decode cX0_inVessels 22 = .ok (.iload 5, 2) := by decide +kernel
theorem dX0_inVessels_24 : decode cX0_inVessels 24 = .ok (.aaload, 1) := by decide +kernel
theorem dX0_inVessels_25 : decode cX0_inVessels 25 = .ok (.astore 6, 2) := by decide +kernel
theorem dX0_inVessels_27 : decode cX0_inVessels 27 = .ok (.iload_n 2, 1) := by decide +kernel
theorem dX0_inVessels_28 : decode cX0_inVessels 28 = .ok (.aload 6, 2) := by decide +kernel
theorem dX0_inVessels_30 : decode cX0_inVessels 30 = .ok (.getfield 142, 3) := by decide +kernel
theorem dX0_inVessels_33 : decode cX0_inVessels 33 = .ok (.iload_n 1, 1) := by decide +kernel
theorem dX0_inVessels_34 : decode cX0_inVessels 34 = .ok (.invokevirtual 108, 3) := by decide +kernel
theorem dX0_inVessels_37 : decode cX0_inVessels 37 = .ok (.iadd, 1) := by decide +kernel
theorem dX0_inVessels_38 : decode cX0_inVessels 38 = .ok (.istore_n 2, 1) := by decide +kernel
theorem dX0_inVessels_39 : decode cX0_inVessels 39 = .ok (.iinc 5 1, 3) := by decide +kernel
theorem dX0_inVessels_42 : decode cX0_inVessels 42 = .ok (.goto (-28), 3) := by decide +kernel
theorem dX0_inVessels_45 : decode cX0_inVessels 45 = .ok (.iload_n 2, 1) := by decide +kernel
theorem dX0_inVessels_46 : decode cX0_inVessels 46 = .ok (.ireturn, 1) := by decide +kernel
theorem dX0_inLadles_0 : decode cX0_inLadles 0 = .ok (.iconst 0, 1) := by decide +kernel
theorem dX0_inLadles_1 : decode cX0_inLadles 1 = .ok (.istore_n 2, 1) := by decide +kernel
theorem dX0_inLadles_2 : decode cX0_inLadles 2 = .ok (.aload_n 0, 1) := by decide +kernel
theorem dX0_inLadles_3 : decode cX0_inLadles 3 = .ok (.getfield 33, 3) := by decide +kernel
theorem dX0_inLadles_6 : decode cX0_inLadles 6 = .ok (.astore_n 3, 1) := by decide +kernel
theorem dX0_inLadles_7 : decode cX0_inLadles 7 = .ok (.aload_n 3, 1) := by decide +kernel
theorem dX0_inLadles_8 : decode cX0_inLadles 8 = .ok (.arraylength, 1) := by decide +kernel
theorem dX0_inLadles_9 : decode cX0_inLadles 9 = .ok (.istore 4, 2) := by decide +kernel
theorem dX0_inLadles_11 : decode cX0_inLadles 11 = .ok (.iconst 0, 1) := by decide +kernel
theorem dX0_inLadles_12 : decode cX0_inLadles 12 = .ok (.istore 5, 2) := by decide +kernel
theorem dX0_inLadles_14 : decode cX0_inLadles 14 = .ok (.iload 5, 2) := by decide +kernel
theorem dX0_inLadles_16 : decode cX0_inLadles 16 = .ok (.iload 4, 2) := by decide +kernel
theorem dX0_inLadles_18 : decode cX0_inLadles 18 = .ok (.if_icmp .ge 27, 3) := by decide +kernel
theorem dX0_inLadles_21 : decode cX0_inLadles 21 = .ok (.aload_n 3, 1) := by decide +kernel
theorem dX0_inLadles_22 : decode cX0_inLadles 22 = .ok (.iload 5, 2) := by decide +kernel
theorem dX0_inLadles_24 : decode cX0_inLadles 24 = .ok (.aaload, 1) := by decide +kernel
theorem dX0_inLadles_25 : decode cX0_inLadles 25 = .ok (.astore 6, 2) := by decide +kernel
theorem dX0_inLadles_27 : decode cX0_inLadles 27 = .ok (.iload_n 2, 1) := by decide +kernel
theorem dX0_inLadles_28 : decode cX0_inLadles 28 = .ok (.aload 6, 2) := by decide +kernel
theorem dX0_inLadles_30 : decode cX0_inLadles 30 = .ok (.getfield 145, 3) := by decide +kernel
theorem dX0_inLadles_33 : decode cX0_inLadles 33 = .ok (.iload_n 1, 1) := by decide +kernel
theorem dX0_inLadles_34 : decode cX0_inLadles 34 = .ok (.invokevirtual 108, 3) := by decide +kernel
theorem dX0_inLadles_37 : decode cX0_inLadles 37 = .ok (.iadd, 1) := by decide +kernel
theorem dX0_inLadles_38 : decode cX0_inLadles 38 = .ok (.istore_n 2, 1) := by decide +kernel
theorem dX0_inLadles_39 : decode cX0_inLadles 39 = .ok (.iinc 5 1, 3) := by decide +kernel
theorem dX0_inLadles_42 : decode cX0_inLadles 42 = .ok (.goto (-28), 3) := by decide +kernel
theorem dX0_inLadles_45 : decode cX0_inLadles 45 = .ok (.iload_n 2, 1) := by decide +kernel
theorem dX0_inLadles_46 : decode cX0_inLadles 46 = .ok (.ireturn, 1) := by decide +kernel
theorem dX0_inSkulls_0 : decode cX0_inSkulls 0 = .ok (.iconst 0, 1) := by decide +kernel
theorem dX0_inSkulls_1 : decode cX0_inSkulls 1 = .ok (.istore_n 2, 1) := by decide +kernel
theorem dX0_inSkulls_2 : decode cX0_inSkulls 2 = .ok (.aload_n 0, 1) := by decide +kernel
theorem dX0_inSkulls_3 : decode cX0_inSkulls 3 = .ok (.getfield 33, 3) := by decide +kernel
theorem dX0_inSkulls_6 : decode cX0_inSkulls 6 = .ok (.astore_n 3, 1) := by decide +kernel
theorem dX0_inSkulls_7 : decode cX0_inSkulls 7 = .ok (.aload_n 3, 1) := by decide +kernel
theorem dX0_inSkulls_8 : decode cX0_inSkulls 8 = .ok (.arraylength, 1) := by decide +kernel
theorem dX0_inSkulls_9 : decode cX0_inSkulls 9 = .ok (.istore 4, 2) := by decide +kernel
theorem dX0_inSkulls_11 : decode cX0_inSkulls 11 = .ok (.iconst 0, 1) := by decide +kernel
theorem dX0_inSkulls_12 : decode cX0_inSkulls 12 = .ok (.istore 5, 2) := by decide +kernel
theorem dX0_inSkulls_14 : decode cX0_inSkulls 14 = .ok (.iload 5, 2) := by decide +kernel
theorem dX0_inSkulls_16 : decode cX0_inSkulls 16 = .ok (.iload 4, 2) := by decide +kernel
theorem dX0_inSkulls_18 : decode cX0_inSkulls 18 = .ok (.if_icmp .ge 27, 3) := by decide +kernel
theorem dX0_inSkulls_21 : decode cX0_inSkulls 21 = .ok (.aload_n 3, 1) := by decide +kernel
theorem dX0_inSkulls_22 : decode cX0_inSkulls 22 = .ok (.iload 5, 2) := by decide +kernel
theorem dX0_inSkulls_24 : decode cX0_inSkulls 24 = .ok (.aaload, 1) := by decide +kernel
theorem dX0_inSkulls_25 : decode cX0_inSkulls 25 = .ok (.astore 6, 2) := by decide +kernel
theorem dX0_inSkulls_27 : decode cX0_inSkulls 27 = .ok (.iload_n 2, 1) := by decide +kernel
theorem dX0_inSkulls_28 : decode cX0_inSkulls 28 = .ok (.aload 6, 2) := by decide +kernel
theorem dX0_inSkulls_30 : decode cX0_inSkulls 30 = .ok (.getfield 146, 3) := by decide +kernel
theorem dX0_inSkulls_33 : decode cX0_inSkulls 33 = .ok (.iload_n 1, 1) := by decide +kernel
theorem dX0_inSkulls_34 : decode cX0_inSkulls 34 = .ok (.invokevirtual 108, 3) := by decide +kernel
theorem dX0_inSkulls_37 : decode cX0_inSkulls 37 = .ok (.iadd, 1) := by decide +kernel
theorem dX0_inSkulls_38 : decode cX0_inSkulls 38 = .ok (.istore_n 2, 1) := by decide +kernel
theorem dX0_inSkulls_39 : decode cX0_inSkulls 39 = .ok (.iinc 5 1, 3) := by decide +kernel
theorem dX0_inSkulls_42 : decode cX0_inSkulls 42 = .ok (.goto (-28), 3) := by decide +kernel
theorem dX0_inSkulls_45 : decode cX0_inSkulls 45 = .ok (.iload_n 2, 1) := by decide +kernel
theorem dX0_inSkulls_46 : decode cX0_inSkulls 46 = .ok (.ireturn, 1) := by decide +kernel
theorem dX0_passMinute_0 : decode cX0_passMinute 0 = .ok (.aload_n 0, 1) := by decide +kernel
theorem dX0_passMinute_1 : decode cX0_passMinute 1 = .ok (.getfield 52, 3) := by decide +kernel
theorem dX0_passMinute_4 : decode cX0_passMinute 4 = .ok (.dup, 1) := by decide +kernel
theorem dX0_passMinute_5 : decode cX0_passMinute 5 = .ok (.getfield 149, 3) := by decide +kernel
theorem dX0_passMinute_8 : decode cX0_passMinute 8 = .ok (.iconst 1, 1) := by decide +kernel
theorem dX0_passMinute_9 : decode cX0_passMinute 9 = .ok (.iadd, 1) := by decide +kernel
theorem dX0_passMinute_10 : decode cX0_passMinute 10 = .ok (.putfield 149, 3) := by decide +kernel
theorem dX0_passMinute_13 : decode cX0_passMinute 13 = .ok (.aload_n 0, 1) := by decide +kernel
theorem dX0_passMinute_14 : decode cX0_passMinute 14 = .ok (.invokevirtual 152, 3) := by decide +kernel
theorem dX0_passMinute_17 : decode cX0_passMinute 17 = .ok (.aload_n 0, 1) := by decide +kernel
theorem dX0_passMinute_18 : decode cX0_passMinute 18 = .ok (.invokevirtual 155, 3) := by decide +kernel
theorem dX0_passMinute_21 : decode cX0_passMinute 21 = .ok (.aload_n 0, 1) := by decide +kernel
theorem dX0_passMinute_22 : decode cX0_passMinute 22 = .ok (.invokevirtual 158, 3) := by decide +kernel
theorem dX0_passMinute_25 : decode cX0_passMinute 25 = .ok (.aload_n 0, 1) := by decide +kernel
theorem dX0_passMinute_26 : decode cX0_passMinute 26 = .ok (.aload_n 0, 1) := by decide +kernel
theorem dX0_passMinute_27 : decode cX0_passMinute 27 = .ok (.getfield 42, 3) := by decide +kernel
theorem dX0_passMinute_30 : decode cX0_passMinute 30 = .ok (.aload_n 0, 1) := by decide +kernel
theorem dX0_passMinute_31 : decode cX0_passMinute 31 = .ok (.getfield 46, 3) := by decide +kernel
theorem dX0_passMinute_34 : decode cX0_passMinute 34 = .ok (.invokevirtual 161, 3) := by decide +kernel
theorem dX0_passMinute_37 : decode cX0_passMinute 37 = .ok (.aload_n 0, 1) := by decide +kernel
theorem dX0_passMinute_38 : decode cX0_passMinute 38 = .ok (.aload_n 0, 1) := by decide +kernel
theorem dX0_passMinute_39 : decode cX0_passMinute 39 = .ok (.getfield 46, 3) := by decide +kernel
theorem dX0_passMinute_42 : decode cX0_passMinute 42 = .ok (.aload_n 0, 1) := by decide +kernel
theorem dX0_passMinute_43 : decode cX0_passMinute 43 = .ok (.getfield 42, 3) := by decide +kernel
theorem dX0_passMinute_46 : decode cX0_passMinute 46 = .ok (.invokevirtual 161, 3) := by decide +kernel
theorem dX0_passMinute_49 : decode cX0_passMinute 49 = .ok (.return_, 1) := by decide +kernel
theorem dX0_feedFurnace_0 : decode cX0_feedFurnace 0 = .ok (.aload_n 0, 1) := by decide +kernel
theorem dX0_feedFurnace_1 : decode cX0_feedFurnace 1 = .ok (.getfield 83, 3) := by decide +kernel
theorem dX0_feedFurnace_4 : decode cX0_feedFurnace 4 = .ok (.ifCond .ne 4, 3) := by decide +kernel
theorem dX0_feedFurnace_7 : decode cX0_feedFurnace 7 = .ok (.return_, 1) := by decide +kernel
theorem dX0_feedFurnace_8 : decode cX0_feedFurnace 8 = .ok (.aload_n 0, 1) := by decide +kernel
theorem dX0_feedFurnace_9 : decode cX0_feedFurnace 9 = .ok (.getfield 12, 3) := by decide +kernel
theorem dX0_feedFurnace_12 : decode cX0_feedFurnace 12 = .ok (.invokevirtual 165, 3) := by decide +kernel
theorem dX0_feedFurnace_15 : decode cX0_feedFurnace 15 = .ok (.iconst 4, 1) := by decide +kernel
theorem dX0_feedFurnace_16 : decode cX0_feedFurnace 16 = .ok (.iadd, 1) := by decide +kernel
theorem dX0_feedFurnace_17 : decode cX0_feedFurnace 17 = .ok (.iconst 3, 1) := by decide +kernel
theorem dX0_feedFurnace_18 : decode cX0_feedFurnace 18 = .ok (.iadd, 1) := by decide +kernel
theorem dX0_feedFurnace_19 : decode cX0_feedFurnace 19 = .ok (.iconst 2, 1) := by decide +kernel
theorem dX0_feedFurnace_20 : decode cX0_feedFurnace 20 = .ok (.iadd, 1) := by decide +kernel
theorem dX0_feedFurnace_21 : decode cX0_feedFurnace 21 = .ok (.sipush 600, 3) := by decide +kernel
theorem dX0_feedFurnace_24 : decode cX0_feedFurnace 24 = .ok (.if_icmp .le 17, 3) := by decide +kernel
theorem dX0_feedFurnace_27 : decode cX0_feedFurnace 27 = .ok (.aload_n 0, 1) := by decide +kernel
theorem dX0_feedFurnace_28 : decode cX0_feedFurnace 28 = .ok (.getfield 52, 3) := by decide +kernel
theorem dX0_feedFurnace_31 : decode cX0_feedFurnace 31 = .ok (.dup, 1) := by decide +kernel
theorem dX0_feedFurnace_32 : decode cX0_feedFurnace 32 = .ok (.getfield 169, 3) := by decide +kernel
theorem dX0_feedFurnace_35 : decode cX0_feedFurnace 35 = .ok (.iconst 1, 1) := by decide +kernel
theorem dX0_feedFurnace_36 : decode cX0_feedFurnace 36 = .ok (.iadd, 1) := by decide +kernel
theorem dX0_feedFurnace_37 : decode cX0_feedFurnace 37 = .ok (.putfield 169, 3) := by decide +kernel
theorem dX0_feedFurnace_40 : decode cX0_feedFurnace 40 = .ok (.return_, 1) := by decide +kernel
theorem dX0_feedFurnace_41 : decode cX0_feedFurnace 41 = .ok (.aload_n 0, 1) := by decide +kernel
theorem dX0_feedFurnace_42 : decode cX0_feedFurnace 42 = .ok (.iconst 1, 1) := by decide +kernel
theorem dX0_feedFurnace_43 : decode cX0_feedFurnace 43 = .ok (.iconst 4, 1) := by decide +kernel
theorem dX0_feedFurnace_44 : decode cX0_feedFurnace 44 = .ok (.invokevirtual 172, 3) := by decide +kernel
theorem dX0_feedFurnace_47 : decode cX0_feedFurnace 47 = .ok (.aload_n 0, 1) := by decide +kernel
theorem dX0_feedFurnace_48 : decode cX0_feedFurnace 48 = .ok (.iconst 2, 1) := by decide +kernel
theorem dX0_feedFurnace_49 : decode cX0_feedFurnace 49 = .ok (.iconst 3, 1) := by decide +kernel
theorem dX0_feedFurnace_50 : decode cX0_feedFurnace 50 = .ok (.invokevirtual 172, 3) := by decide +kernel
theorem dX0_feedFurnace_53 : decode cX0_feedFurnace 53 = .ok (.aload_n 0, 1) := by decide +kernel
theorem dX0_feedFurnace_54 : decode cX0_feedFurnace 54 = .ok (.iconst 3, 1) := by decide +kernel
theorem dX0_feedFurnace_55 : decode cX0_feedFurnace 55 = .ok (.iconst 2, 1) := by decide +kernel
theorem dX0_feedFurnace_56 : decode cX0_feedFurnace 56 = .ok (.invokevirtual 172, 3) := by decide +kernel
theorem dX0_feedFurnace_59 : decode cX0_feedFurnace 59 = .ok (.return_, 1) := by decide +kernel
theorem dX0_feed_0 : decode cX0_feed 0 = .ok (.aload_n 0, 1) := by decide +kernel
theorem dX0_feed_1 : decode cX0_feed 1 = .ok (.getfield 12, 3) := by decide +kernel
theorem dX0_feed_4 : decode cX0_feed 4 = .ok (.iload_n 1, 1) := by decide +kernel
theorem dX0_feed_5 : decode cX0_feed 5 = .ok (.iload_n 2, 1) := by decide +kernel
theorem dX0_feed_6 : decode cX0_feed 6 = .ok (.invokevirtual 175, 3) := by decide +kernel
theorem dX0_feed_9 : decode cX0_feed 9 = .ok (.aload_n 0, 1) := by decide +kernel
theorem dX0_feed_10 : decode cX0_feed 10 = .ok (.getfield 52, 3) := by decide +kernel
theorem dX0_feed_13 : decode cX0_feed 13 = .ok (.getfield 133, 3) := by decide +kernel
theorem dX0_feed_16 : decode cX0_feed 16 = .ok (.iload_n 1, 1) := by decide +kernel
theorem dX0_feed_17 : decode cX0_feed 17 = .ok (.iload_n 2, 1) := by decide +kernel
theorem dX0_feed_18 : decode cX0_feed 18 = .ok (.invokevirtual 175, 3) := by decide +kernel
theorem dX0_feed_21 : decode cX0_feed 21 = .ok (.return_, 1) := by decide +kernel
theorem dX0_blowVessels_0 : decode cX0_blowVessels 0 = .ok (.aload_n 0, 1) := by decide +kernel
theorem dX0_blowVessels_1 : decode cX0_blowVessels 1 = .ok (.getfield 52, 3) := by decide +kernel
theorem dX0_blowVessels_4 : decode cX0_blowVessels 4 = .ok (.iconst 0, 1) := by decide +kernel
theorem dX0_blowVessels_5 : decode cX0_blowVessels 5 = .ok (.putfield 178, 3) := by decide +kernel
theorem dX0_blowVessels_8 : decode cX0_blowVessels 8 = .ok (.aload_n 0, 1) := by decide +kernel
theorem dX0_blowVessels_9 : decode cX0_blowVessels 9 = .ok (.getfield 24, 3) := by decide +kernel
theorem dX0_blowVessels_12 : decode cX0_blowVessels 12 = .ok (.astore_n 1, 1) := by decide +kernel
theorem dX0_blowVessels_13 : decode cX0_blowVessels 13 = .ok (.aload_n 1, 1) := by decide +kernel
theorem dX0_blowVessels_14 : decode cX0_blowVessels 14 = .ok (.arraylength, 1) := by decide +kernel
theorem dX0_blowVessels_15 : decode cX0_blowVessels 15 = .ok (.istore_n 2, 1) := by decide +kernel
theorem dX0_blowVessels_16 : decode cX0_blowVessels 16 = .ok (.iconst 0, 1) := by decide +kernel
theorem dX0_blowVessels_17 : decode cX0_blowVessels 17 = .ok (.istore_n 3, 1) := by decide +kernel
theorem dX0_blowVessels_18 : decode cX0_blowVessels 18 = .ok (.iload_n 3, 1) := by decide +kernel
theorem dX0_blowVessels_19 : decode cX0_blowVessels 19 = .ok (.iload_n 2, 1) := by decide +kernel
theorem dX0_blowVessels_20 : decode cX0_blowVessels 20 = .ok (.if_icmp .ge 28, 3) := by decide +kernel
theorem dX0_blowVessels_23 : decode cX0_blowVessels 23 = .ok (.aload_n 1, 1) := by decide +kernel
theorem dX0_blowVessels_24 : decode cX0_blowVessels 24 = .ok (.iload_n 3, 1) := by decide +kernel
theorem dX0_blowVessels_25 : decode cX0_blowVessels 25 = .ok (.aaload, 1) := by decide +kernel
theorem dX0_blowVessels_26 : decode cX0_blowVessels 26 = .ok (.astore 4, 2) := by decide +kernel
theorem dX0_blowVessels_28 : decode cX0_blowVessels 28 = .ok (.aload 4, 2) := by decide +kernel
theorem dX0_blowVessels_30 : decode cX0_blowVessels 30 = .ok (.getfield 181, 3) := by decide +kernel
theorem dX0_blowVessels_33 : decode cX0_blowVessels 33 = .ok (.ifCond .eq 9, 3) := by decide +kernel
theorem dX0_blowVessels_36 : decode cX0_blowVessels 36 = .ok (.aload_n 0, 1) := by decide +kernel
theorem dX0_blowVessels_37 : decode cX0_blowVessels 37 = .ok (.aload 4, 2) := by decide +kernel
theorem dX0_blowVessels_39 : decode cX0_blowVessels 39 = .ok (.invokevirtual 184, 3) := by decide +kernel
theorem dX0_blowVessels_42 : decode cX0_blowVessels 42 = .ok (.iinc 3 1, 3) := by decide +kernel
theorem dX0_blowVessels_45 : decode cX0_blowVessels 45 = .ok (.goto (-27), 3) := by decide +kernel
theorem dX0_blowVessels_48 : decode cX0_blowVessels 48 = .ok (.aload_n 0, 1) := by decide +kernel
theorem dX0_blowVessels_49 : decode cX0_blowVessels 49 = .ok (.getfield 24, 3) := by decide +kernel
theorem dX0_blowVessels_52 : decode cX0_blowVessels 52 = .ok (.astore_n 1, 1) := by decide +kernel
theorem dX0_blowVessels_53 : decode cX0_blowVessels 53 = .ok (.aload_n 1, 1) := by decide +kernel
theorem dX0_blowVessels_54 : decode cX0_blowVessels 54 = .ok (.arraylength, 1) := by decide +kernel
theorem dX0_blowVessels_55 : decode cX0_blowVessels 55 = .ok (.istore_n 2, 1) := by decide +kernel
theorem dX0_blowVessels_56 : decode cX0_blowVessels 56 = .ok (.iconst 0, 1) := by decide +kernel
theorem dX0_blowVessels_57 : decode cX0_blowVessels 57 = .ok (.istore_n 3, 1) := by decide +kernel
theorem dX0_blowVessels_58 : decode cX0_blowVessels 58 = .ok (.iload_n 3, 1) := by decide +kernel
theorem dX0_blowVessels_59 : decode cX0_blowVessels 59 = .ok (.iload_n 2, 1) := by decide +kernel
theorem dX0_blowVessels_60 : decode cX0_blowVessels 60 = .ok (.if_icmp .ge 19, 3) := by decide +kernel
theorem dX0_blowVessels_63 : decode cX0_blowVessels 63 = .ok (.aload_n 1, 1) := by decide +kernel
theorem dX0_blowVessels_64 : decode cX0_blowVessels 64 = .ok (.iload_n 3, 1) := by decide +kernel
theorem dX0_blowVessels_65 : decode cX0_blowVessels 65 = .ok (.aaload, 1) := by decide +kernel
theorem dX0_blowVessels_66 : decode cX0_blowVessels 66 = .ok (.astore 4, 2) := by decide +kernel
theorem dX0_blowVessels_68 : decode cX0_blowVessels 68 = .ok (.aload 4, 2) := by decide +kernel
theorem dX0_blowVessels_70 : decode cX0_blowVessels 70 = .ok (.invokevirtual 187, 3) := by decide +kernel
theorem dX0_blowVessels_73 : decode cX0_blowVessels 73 = .ok (.iinc 3 1, 3) := by decide +kernel
theorem dX0_blowVessels_76 : decode cX0_blowVessels 76 = .ok (.goto (-18), 3) := by decide +kernel
theorem dX0_blowVessels_79 : decode cX0_blowVessels 79 = .ok (.return_, 1) := by decide +kernel
theorem dX0_blowParts_0 : decode cX0_blowParts 0 = .ok (.aload_n 1, 1) := by decide +kernel
theorem dX0_blowParts_1 : decode cX0_blowParts 1 = .ok (.invokevirtual 190, 3) := by decide +kernel
theorem dX0_blowParts_4 : decode cX0_blowParts 4 = .ok (.ifCond .eq 19, 3) := by decide +kernel
theorem dX0_blowParts_7 : decode cX0_blowParts 7 = .ok (.aload_n 1, 1) := by decide +kernel
theorem dX0_blowParts_8 : decode cX0_blowParts 8 = .ok (.iconst 0, 1) := by decide +kernel
theorem dX0_blowParts_9 : decode cX0_blowParts 9 = .ok (.putfield 181, 3) := by decide +kernel
theorem dX0_blowParts_12 : decode cX0_blowParts 12 = .ok (.aload_n 1, 1) := by decide +kernel
theorem dX0_blowParts_13 : decode cX0_blowParts 13 = .ok (.dup, 1) := by decide +kernel
theorem dX0_blowParts_14 : decode cX0_blowParts 14 = .ok (.getfield 194, 3) := by decide +kernel
theorem dX0_blowParts_17 : decode cX0_blowParts 17 = .ok (.iconst 1, 1) := by decide +kernel
theorem dX0_blowParts_18 : decode cX0_blowParts 18 = .ok (.iadd, 1) := by decide +kernel
theorem dX0_blowParts_19 : decode cX0_blowParts 19 = .ok (.putfield 194, 3) := by decide +kernel
theorem dX0_blowParts_22 : decode cX0_blowParts 22 = .ok (.return_, 1) := by decide +kernel
theorem dX0_blowParts_23 : decode cX0_blowParts 23 = .ok (.bipush 6, 2) := by decide +kernel
theorem dX0_blowParts_25 : decode cX0_blowParts 25 = .ok (.aload_n 1, 1) := by decide +kernel
theorem dX0_blowParts_26 : decode cX0_blowParts 26 = .ok (.getfield 142, 3) := by decide +kernel
theorem dX0_blowParts_29 : decode cX0_blowParts 29 = .ok (.getfield 197, 3) := by decide +kernel
theorem dX0_blowParts_32 : decode cX0_blowParts 32 = .ok (.invokestatic 200, 3) := by decide +kernel
theorem dX0_blowParts_35 : decode cX0_blowParts 35 = .ok (.istore_n 2, 1) := by decide +kernel
theorem dX0_blowParts_36 : decode cX0_blowParts 36 = .ok (.bipush 6, 2) := by decide +kernel
theorem dX0_blowParts_38 : decode cX0_blowParts 38 = .ok (.iload_n 2, 1) := by decide +kernel
theorem dX0_blowParts_39 : decode cX0_blowParts 39 = .ok (.isub, 1) := by decide +kernel
theorem dX0_blowParts_40 : decode cX0_blowParts 40 = .ok (.aload_n 1, 1) := by decide +kernel
theorem dX0_blowParts_41 : decode cX0_blowParts 41 = .ok (.getfield 142, 3) := by decide +kernel
theorem dX0_blowParts_44 : decode cX0_blowParts 44 = .ok (.getfield 206, 3) := by decide +kernel
theorem dX0_blowParts_47 : decode cX0_blowParts 47 = .ok (.invokestatic 200, 3) := by decide +kernel
theorem dX0_blowParts_50 : decode cX0_blowParts 50 = .ok (.istore_n 3, 1) := by decide +kernel
theorem dX0_blowParts_51 : decode cX0_blowParts 51 = .ok (.bipush 6, 2) := by decide +kernel
theorem dX0_blowParts_53 : decode cX0_blowParts 53 = .ok (.iload_n 2, 1) := by decide +kernel
theorem dX0_blowParts_54 : decode cX0_blowParts 54 = .ok (.isub, 1) := by decide +kernel
theorem dX0_blowParts_55 : decode cX0_blowParts 55 = .ok (.iload_n 3, 1) := by decide +kernel
theorem dX0_blowParts_56 : decode cX0_blowParts 56 = .ok (.isub, 1) := by decide +kernel
theorem dX0_blowParts_57 : decode cX0_blowParts 57 = .ok (.aload_n 1, 1) := by decide +kernel
theorem dX0_blowParts_58 : decode cX0_blowParts 58 = .ok (.getfield 142, 3) := by decide +kernel
theorem dX0_blowParts_61 : decode cX0_blowParts 61 = .ok (.getfield 209, 3) := by decide +kernel
theorem dX0_blowParts_64 : decode cX0_blowParts 64 = .ok (.invokestatic 200, 3) := by decide +kernel
theorem dX0_blowParts_67 : decode cX0_blowParts 67 = .ok (.istore 4, 2) := by decide +kernel
theorem dX0_blowParts_69 : decode cX0_blowParts 69 = .ok (.aload_n 0, 1) := by decide +kernel
theorem dX0_blowParts_70 : decode cX0_blowParts 70 = .ok (.getfield 52, 3) := by decide +kernel
theorem dX0_blowParts_73 : decode cX0_blowParts 73 = .ok (.getfield 178, 3) := by decide +kernel
theorem dX0_blowParts_76 : decode cX0_blowParts 76 = .ok (.iload_n 3, 1) := by decide +kernel
theorem dX0_blowParts_77 : decode cX0_blowParts 77 = .ok (.iadd, 1) := by decide +kernel
theorem dX0_blowParts_78 : decode cX0_blowParts 78 = .ok (.aload_n 0, 1) := by decide +kernel
theorem dX0_blowParts_79 : decode cX0_blowParts 79 = .ok (.getfield 56, 3) := by decide +kernel
theorem dX0_blowParts_82 : decode cX0_blowParts 82 = .ok (.if_icmp .le 14, 3) := by decide +kernel
theorem dX0_blowParts_85 : decode cX0_blowParts 85 = .ok (.aload_n 1, 1) := by decide +kernel
theorem dX0_blowParts_86 : decode cX0_blowParts 86 = .ok (.dup, 1) := by decide +kernel
theorem dX0_blowParts_87 : decode cX0_blowParts 87 = .ok (.getfield 212, 3) := by decide +kernel
theorem dX0_blowParts_90 : decode cX0_blowParts 90 = .ok (.iconst 1, 1) := by decide +kernel
theorem dX0_blowParts_91 : decode cX0_blowParts 91 = .ok (.iadd, 1) := by decide +kernel
theorem dX0_blowParts_92 : decode cX0_blowParts 92 = .ok (.putfield 212, 3) := by decide +kernel
theorem dX0_blowParts_95 : decode cX0_blowParts 95 = .ok (.return_, 1) := by decide +kernel
theorem dX0_blowParts_96 : decode cX0_blowParts 96 = .ok (.aload_n 0, 1) := by decide +kernel
theorem dX0_blowParts_97 : decode cX0_blowParts 97 = .ok (.getfield 52, 3) := by decide +kernel
theorem dX0_blowParts_100 : decode cX0_blowParts 100 = .ok (.dup, 1) := by decide +kernel
theorem dX0_blowParts_101 : decode cX0_blowParts 101 = .ok (.getfield 178, 3) := by decide +kernel
theorem dX0_blowParts_104 : decode cX0_blowParts 104 = .ok (.iload_n 3, 1) := by decide +kernel
theorem dX0_blowParts_105 : decode cX0_blowParts 105 = .ok (.iadd, 1) := by decide +kernel
theorem dX0_blowParts_106 : decode cX0_blowParts 106 = .ok (.putfield 178, 3) := by decide +kernel
theorem dX0_blowParts_109 : decode cX0_blowParts 109 = .ok (.aload_n 1, 1) := by decide +kernel
theorem dX0_blowParts_110 : decode cX0_blowParts 110 = .ok (.dup, 1) := by decide +kernel
theorem dX0_blowParts_111 : decode cX0_blowParts 111 = .ok (.getfield 215, 3) := by decide +kernel
theorem dX0_blowParts_114 : decode cX0_blowParts 114 = .ok (.iconst 4, 1) := by decide +kernel
theorem dX0_blowParts_115 : decode cX0_blowParts 115 = .ok (.iload_n 2, 1) := by decide +kernel
theorem dX0_blowParts_116 : decode cX0_blowParts 116 = .ok (.imul, 1) := by decide +kernel
theorem dX0_blowParts_117 : decode cX0_blowParts 117 = .ok (.iconst 3, 1) := by decide +kernel
theorem dX0_blowParts_118 : decode cX0_blowParts 118 = .ok (.iload_n 3, 1) := by decide +kernel
theorem dX0_blowParts_119 : decode cX0_blowParts 119 = .ok (.imul, 1) := by decide +kernel
theorem dX0_blowParts_120 : decode cX0_blowParts 120 = .ok (.iadd, 1) := by decide +kernel
theorem dX0_blowParts_121 : decode cX0_blowParts 121 = .ok (.iconst 2, 1) := by decide +kernel
theorem dX0_blowParts_122 : decode cX0_blowParts 122 = .ok (.iload 4, 2) := by decide +kernel
theorem dX0_blowParts_124 : decode cX0_blowParts 124 = .ok (.imul, 1) := by decide +kernel
theorem dX0_blowParts_125 : decode cX0_blowParts 125 = .ok (.iadd, 1) := by decide +kernel
theorem dX0_blowParts_126 : decode cX0_blowParts 126 = .ok (.iadd, 1) := by decide +kernel
theorem dX0_blowParts_127 : decode cX0_blowParts 127 = .ok (.putfield 215, 3) := by decide +kernel
theorem dX0_blowParts_130 : decode cX0_blowParts 130 = .ok (.aload_n 0, 1) := by decide +kernel
theorem dX0_blowParts_131 : decode cX0_blowParts 131 = .ok (.aload_n 1, 1) := by decide +kernel
theorem dX0_blowParts_132 : decode cX0_blowParts 132 = .ok (.iconst 2, 1) := by decide +kernel
theorem dX0_blowParts_133 : decode cX0_blowParts 133 = .ok (.iload_n 2, 1) := by decide +kernel
theorem dX0_blowParts_134 : decode cX0_blowParts 134 = .ok (.invokevirtual 218, 3) := by decide +kernel
theorem dX0_blowParts_137 : decode cX0_blowParts 137 = .ok (.aload_n 0, 1) := by decide +kernel
theorem dX0_blowParts_138 : decode cX0_blowParts 138 = .ok (.aload_n 1, 1) := by decide +kernel
theorem dX0_blowParts_139 : decode cX0_blowParts 139 = .ok (.iconst 3, 1) := by decide +kernel
theorem dX0_blowParts_140 : decode cX0_blowParts 140 = .ok (.iload_n 3, 1) := by decide +kernel
theorem dX0_blowParts_141 : decode cX0_blowParts 141 = .ok (.invokevirtual 218, 3) := by decide +kernel
theorem dX0_blowParts_144 : decode cX0_blowParts 144 = .ok (.aload_n 0, 1) := by decide +kernel
theorem dX0_blowParts_145 : decode cX0_blowParts 145 = .ok (.aload_n 1, 1) := by decide +kernel
theorem dX0_blowParts_146 : decode cX0_blowParts 146 = .ok (.iconst 1, 1) := by decide +kernel
theorem dX0_blowParts_147 : decode cX0_blowParts 147 = .ok (.iload 4, 2) := by decide +kernel
theorem dX0_blowParts_149 : decode cX0_blowParts 149 = .ok (.invokevirtual 218, 3) := by decide +kernel
theorem dX0_blowParts_152 : decode cX0_blowParts 152 = .ok (.aload_n 1, 1) := by decide +kernel
theorem dX0_blowParts_153 : decode cX0_blowParts 153 = .ok (.getfield 142, 3) := by decide +kernel
theorem dX0_blowParts_156 : decode cX0_blowParts 156 = .ok (.dup, 1) := by decide +kernel
theorem dX0_blowParts_157 : decode cX0_blowParts 157 = .ok (.getfield 222, 3) := by decide +kernel
theorem dX0_blowParts_160 : decode cX0_blowParts 160 = .ok (.iload_n 2, 1) := by decide +kernel
theorem dX0_blowParts_161 : decode cX0_blowParts 161 = .ok (.iload 4, 2) := by decide +kernel
theorem dX0_blowParts_163 : decode cX0_blowParts 163 = .ok (.iadd, 1) := by decide +kernel
theorem dX0_blowParts_164 : decode cX0_blowParts 164 = .ok (.iadd, 1) := by decide +kernel
theorem dX0_blowParts_165 : decode cX0_blowParts 165 = .ok (.putfield 222, 3) := by decide +kernel
theorem dX0_blowParts_168 : decode cX0_blowParts 168 = .ok (.aload_n 0, 1) := by decide +kernel
theorem dX0_blowParts_169 : decode cX0_blowParts 169 = .ok (.getfield 52, 3) := by decide +kernel
theorem dX0_blowParts_172 : decode cX0_blowParts 172 = .ok (.getfield 139, 3) := by decide +kernel
theorem dX0_blowParts_175 : decode cX0_blowParts 175 = .ok (.dup, 1) := by decide +kernel
theorem dX0_blowParts_176 : decode cX0_blowParts 176 = .ok (.getfield 222, 3) := by decide +kernel
theorem dX0_blowParts_179 : decode cX0_blowParts 179 = .ok (.iload_n 2, 1) := by decide +kernel
theorem dX0_blowParts_180 : decode cX0_blowParts 180 = .ok (.iload 4, 2) := by decide +kernel
theorem dX0_blowParts_182 : decode cX0_blowParts 182 = .ok (.iadd, 1) := by decide +kernel
theorem dX0_blowParts_183 : decode cX0_blowParts 183 = .ok (.iadd, 1) := by decide +kernel
theorem dX0_blowParts_184 : decode cX0_blowParts 184 = .ok (.putfield 222, 3) := by decide +kernel
theorem dX0_blowParts_187 : decode cX0_blowParts 187 = .ok (.return_, 1) := by decide +kernel
theorem dX0_burn_0 : decode cX0_burn 0 = .ok (.aload_n 1, 1) := by decide +kernel
theorem dX0_burn_1 : decode cX0_burn 1 = .ok (.getfield 142, 3) := by decide +kernel
theorem dX0_burn_4 : decode cX0_burn 4 = .ok (.iload_n 2, 1) := by decide +kernel
theorem dX0_burn_5 : decode cX0_burn 5 = .ok (.iload_n 3, 1) := by decide +kernel
theorem dX0_burn_6 : decode cX0_burn 6 = .ok (.ineg, 1) := by decide +kernel
theorem dX0_burn_7 : decode cX0_burn 7 = .ok (.invokevirtual 175, 3) := by decide +kernel
theorem dX0_burn_10 : decode cX0_burn 10 = .ok (.aload_n 0, 1) := by decide +kernel
theorem dX0_burn_11 : decode cX0_burn 11 = .ok (.getfield 52, 3) := by decide +kernel
theorem dX0_burn_14 : decode cX0_burn 14 = .ok (.getfield 136, 3) := by decide +kernel
theorem dX0_burn_17 : decode cX0_burn 17 = .ok (.iload_n 2, 1) := by decide +kernel
theorem dX0_burn_18 : decode cX0_burn 18 = .ok (.iload_n 3, 1) := by decide +kernel
theorem dX0_burn_19 : decode cX0_burn 19 = .ok (.invokevirtual 175, 3) := by decide +kernel
theorem dX0_burn_22 : decode cX0_burn 22 = .ok (.return_, 1) := by decide +kernel
theorem dX0_castAnode_0 : decode cX0_castAnode 0 = .ok (.aload_n 0, 1) := by decide +kernel
theorem dX0_castAnode_1 : decode cX0_castAnode 1 = .ok (.getfield 80, 3) := by decide +kernel
theorem dX0_castAnode_4 : decode cX0_castAnode 4 = .ok (.iconst 5, 1) := by decide +kernel
theorem dX0_castAnode_5 : decode cX0_castAnode 5 = .ok (.if_icmp .lt 29, 3) := by decide +kernel
theorem dX0_castAnode_8 : decode cX0_castAnode 8 = .ok (.aload_n 0, 1) := by decide +kernel
theorem dX0_castAnode_9 : decode cX0_castAnode 9 = .ok (.dup, 1) := by decide +kernel
theorem dX0_castAnode_10 : decode cX0_castAnode 10 = .ok (.getfield 80, 3) := by decide +kernel
theorem dX0_castAnode_13 : decode cX0_castAnode 13 = .ok (.iconst 5, 1) := by decide +kernel
theorem dX0_castAnode_14 : decode cX0_castAnode 14 = .ok (.isub, 1) := by decide +kernel
theorem dX0_castAnode_15 : decode cX0_castAnode 15 = .ok (.putfield 80, 3) := by decide +kernel
theorem dX0_castAnode_18 : decode cX0_castAnode 18 = .ok (.aload_n 0, 1) := by decide +kernel
theorem dX0_castAnode_19 : decode cX0_castAnode 19 = .ok (.getfield 52, 3) := by decide +kernel
theorem dX0_castAnode_22 : decode cX0_castAnode 22 = .ok (.dup, 1) := by decide +kernel
theorem dX0_castAnode_23 : decode cX0_castAnode 23 = .ok (.getfield 121, 3) := by decide +kernel
theorem dX0_castAnode_26 : decode cX0_castAnode 26 = .ok (.iconst 1, 1) := by decide +kernel
theorem dX0_castAnode_27 : decode cX0_castAnode 27 = .ok (.iadd, 1) := by decide +kernel
theorem dX0_castAnode_28 : decode cX0_castAnode 28 = .ok (.putfield 121, 3) := by decide +kernel
theorem dX0_castAnode_31 : decode cX0_castAnode 31 = .ok (.goto 16, 3) := by decide +kernel
theorem dX0_castAnode_34 : decode cX0_castAnode 34 = .ok (.aload_n 0, 1) := by decide +kernel
theorem dX0_castAnode_35 : decode cX0_castAnode 35 = .ok (.getfield 52, 3) := by decide +kernel
theorem dX0_castAnode_38 : decode cX0_castAnode 38 = .ok (.dup, 1) := by decide +kernel
theorem dX0_castAnode_39 : decode cX0_castAnode 39 = .ok (.getfield 225, 3) := by decide +kernel
theorem dX0_castAnode_42 : decode cX0_castAnode 42 = .ok (.iconst 1, 1) := by decide +kernel
theorem dX0_castAnode_43 : decode cX0_castAnode 43 = .ok (.iadd, 1) := by decide +kernel
theorem dX0_castAnode_44 : decode cX0_castAnode 44 = .ok (.putfield 225, 3) := by decide +kernel
theorem dX0_castAnode_47 : decode cX0_castAnode 47 = .ok (.return_, 1) := by decide +kernel
theorem dX0_work_0 : decode cX0_work 0 = .ok (.iconst 0, 1) := by decide +kernel
theorem dX0_work_1 : decode cX0_work 1 = .ok (.istore_n 3, 1) := by decide +kernel
theorem dX0_work_2 : decode cX0_work 2 = .ok (.iload_n 3, 1) := by decide +kernel
theorem dX0_work_3 : decode cX0_work 3 = .ok (.bipush 8, 2) := by decide +kernel
theorem dX0_work_5 : decode cX0_work 5 = .ok (.if_icmp .ge 21, 3) := by decide +kernel
theorem dX0_work_8 : decode cX0_work 8 = .ok (.aload_n 1, 1) := by decide +kernel
theorem dX0_work_9 : decode cX0_work 9 = .ok (.invokevirtual 228, 3) := by decide +kernel
theorem dX0_work_12 : decode cX0_work 12 = .ok (.ifCond .eq 14, 3) := by decide +kernel
theorem dX0_work_15 : decode cX0_work 15 = .ok (.aload_n 0, 1) := by decide +kernel
theorem dX0_work_16 : decode cX0_work 16 = .ok (.aload_n 1, 1) := by decide +kernel
theorem dX0_work_17 : decode cX0_work 17 = .ok (.invokevirtual 231, 3) := by decide +kernel
theorem dX0_work_20 : decode cX0_work 20 = .ok (.iinc 3 1, 3) := by decide +kernel
theorem dX0_work_23 : decode cX0_work 23 = .ok (.goto (-21), 3) := by decide +kernel
theorem dX0_work_26 : decode cX0_work 26 = .ok (.aload_n 1, 1) := by decide +kernel
theorem dX0_work_27 : decode cX0_work 27 = .ok (.getfield 105, 3) := by decide +kernel
theorem dX0_work_30 : decode cX0_work 30 = .ok (.ifCond .ne 4, 3) := by decide +kernel
theorem dX0_work_33 : decode cX0_work 33 = .ok (.return_, 1) := by decide +kernel
theorem dX0_work_34 : decode cX0_work 34 = .ok (.aload_n 1, 1) := by decide +kernel
theorem dX0_work_35 : decode cX0_work 35 = .ok (.invokevirtual 234, 3) := by decide +kernel
theorem dX0_work_38 : decode cX0_work 38 = .ok (.ifCond .ne 12, 3) := by decide +kernel
theorem dX0_work_41 : decode cX0_work 41 = .ok (.aload_n 0, 1) := by decide +kernel
theorem dX0_work_42 : decode cX0_work 42 = .ok (.aload_n 1, 1) := by decide +kernel
theorem dX0_work_43 : decode cX0_work 43 = .ok (.aload_n 2, 1) := by decide +kernel
theorem dX0_work_44 : decode cX0_work 44 = .ok (.invokevirtual 237, 3) := by decide +kernel
theorem dX0_work_47 : decode cX0_work 47 = .ok (.goto 29, 3) := by decide +kernel
theorem dX0_work_50 : decode cX0_work 50 = .ok (.aload_n 0, 1) := by decide +kernel
theorem dX0_work_51 : decode cX0_work 51 = .ok (.aload_n 1, 1) := by decide +kernel
theorem dX0_work_52 : decode cX0_work 52 = .ok (.invokevirtual 240, 3) := by decide +kernel
theorem dX0_work_55 : decode cX0_work 55 = .ok (.ifCond .eq 11, 3) := by decide +kernel
theorem dX0_work_58 : decode cX0_work 58 = .ok (.aload_n 0, 1) := by decide +kernel
theorem dX0_work_59 : decode cX0_work 59 = .ok (.aload_n 1, 1) := by decide +kernel
theorem dX0_work_60 : decode cX0_work 60 = .ok (.invokevirtual 231, 3) := by decide +kernel
theorem dX0_work_63 : decode cX0_work 63 = .ok (.goto 13, 3) := by decide +kernel
theorem dX0_work_66 : decode cX0_work 66 = .ok (.aload_n 1, 1) := by decide +kernel
theorem dX0_work_67 : decode cX0_work 67 = .ok (.dup, 1) := by decide +kernel
theorem dX0_work_68 : decode cX0_work 68 = .ok (.getfield 244, 3) := by decide +kernel
theorem dX0_work_71 : decode cX0_work 71 = .ok (.iconst 1, 1) := by decide +kernel
theorem dX0_work_72 : decode cX0_work 72 = .ok (.iadd, 1) := by decide +kernel
theorem dX0_work_73 : decode cX0_work 73 = .ok (.putfield 244, 3) := by decide +kernel
theorem dX0_work_76 : decode cX0_work 76 = .ok (.return_, 1) := by decide +kernel
theorem dX0_finishFirst_0 : decode cX0_finishFirst 0 = .ok (.aload_n 1, 1) := by decide +kernel
theorem dX0_finishFirst_1 : decode cX0_finishFirst 1 = .ok (.invokevirtual 247, 3) := by decide +kernel
theorem dX0_finishFirst_4 : decode cX0_finishFirst 4 = .ok (.aload_n 0, 1) := by decide +kernel
theorem dX0_finishFirst_5 : decode cX0_finishFirst 5 = .ok (.getfield 52, 3) := by decide +kernel
theorem dX0_finishFirst_8 : decode cX0_finishFirst 8 = .ok (.dup, 1) := by decide +kernel
theorem dX0_finishFirst_9 : decode cX0_finishFirst 9 = .ok (.getfield 250, 3) := by decide +kernel
theorem dX0_finishFirst_12 : decode cX0_finishFirst 12 = .ok (.iconst 1, 1) := by decide +kernel
theorem dX0_finishFirst_13 : decode cX0_finishFirst 13 = .ok (.iadd, 1) := by decide +kernel
theorem dX0_finishFirst_14 : decode cX0_finishFirst 14 = .ok (.putfield 250, 3) := by decide +kernel
theorem dX0_finishFirst_17 : decode cX0_finishFirst 17 = .ok (.return_, 1) := by decide +kernel
theorem dX0_stepOrWait_0 : decode cX0_stepOrWait 0 = .ok (.aload_n 1, 1) := by decide +kernel
theorem dX0_stepOrWait_1 : decode cX0_stepOrWait 1 = .ok (.invokevirtual 253, 3) := by decide +kernel
theorem dX0_stepOrWait_4 : decode cX0_stepOrWait 4 = .ok (.istore_n 3, 1) := by decide +kernel
theorem dX0_stepOrWait_5 : decode cX0_stepOrWait 5 = .ok (.iload_n 3, 1) := by decide +kernel
theorem dX0_stepOrWait_6 : decode cX0_stepOrWait 6 = .ok (.aload_n 2, 1) := by decide +kernel
theorem dX0_stepOrWait_7 : decode cX0_stepOrWait 7 = .ok (.getfield 256, 3) := by decide +kernel
theorem dX0_stepOrWait_10 : decode cX0_stepOrWait 10 = .ok (.if_icmp .ne 14, 3) := by decide +kernel
theorem dX0_stepOrWait_13 : decode cX0_stepOrWait 13 = .ok (.aload_n 1, 1) := by decide +kernel
theorem dX0_stepOrWait_14 : decode cX0_stepOrWait 14 = .ok (.dup, 1) := by decide +kernel
theorem dX0_stepOrWait_15 : decode cX0_stepOrWait 15 = .ok (.getfield 244, 3) := by decide +kernel
theorem dX0_stepOrWait_18 : decode cX0_stepOrWait 18 = .ok (.iconst 1, 1) := by decide +kernel
theorem dX0_stepOrWait_19 : decode cX0_stepOrWait 19 = .ok (.iadd, 1) := by decide +kernel
theorem dX0_stepOrWait_20 : decode cX0_stepOrWait 20 = .ok (.putfield 244, 3) := by decide +kernel
theorem dX0_stepOrWait_23 : decode cX0_stepOrWait 23 = .ok (.return_, 1) := by decide +kernel
theorem dX0_stepOrWait_24 : decode cX0_stepOrWait 24 = .ok (.aload_n 1, 1) := by decide +kernel
theorem dX0_stepOrWait_25 : decode cX0_stepOrWait 25 = .ok (.iload_n 3, 1) := by decide +kernel
theorem dX0_stepOrWait_26 : decode cX0_stepOrWait 26 = .ok (.putfield 256, 3) := by decide +kernel
theorem dX0_stepOrWait_29 : decode cX0_stepOrWait 29 = .ok (.aload_n 0, 1) := by decide +kernel
theorem dX0_stepOrWait_30 : decode cX0_stepOrWait 30 = .ok (.aload_n 0, 1) := by decide +kernel
theorem dX0_stepOrWait_31 : decode cX0_stepOrWait 31 = .ok (.aload_n 1, 1) := by decide +kernel
theorem dX0_stepOrWait_32 : decode cX0_stepOrWait 32 = .ok (.invokevirtual 257, 3) := by decide +kernel
theorem dX0_stepOrWait_35 : decode cX0_stepOrWait 35 = .ok (.invokevirtual 261, 3) := by decide +kernel
theorem dX0_stepOrWait_38 : decode cX0_stepOrWait 38 = .ok (.astore 4, 2) := by decide +kernel
theorem dX0_stepOrWait_40 : decode cX0_stepOrWait 40 = .ok (.aload 4, 2) := by decide +kernel
theorem dX0_stepOrWait_42 : decode cX0_stepOrWait 42 = .ok (.ifnull 9, 3) := by decide +kernel
theorem dX0_stepOrWait_45 : decode cX0_stepOrWait 45 = .ok (.aload 4, 2) := by decide +kernel
theorem dX0_stepOrWait_47 : decode cX0_stepOrWait 47 = .ok (.iload_n 3, 1) := by decide +kernel
theorem dX0_stepOrWait_48 : decode cX0_stepOrWait 48 = .ok (.putfield 104, 3) := by decide +kernel
theorem dX0_stepOrWait_51 : decode cX0_stepOrWait 51 = .ok (.return_, 1) := by decide +kernel
theorem dX0_isCarriedOut_0 : decode cX0_isCarriedOut 0 = .ok (.aload_n 0, 1) := by decide +kernel
theorem dX0_isCarriedOut_1 : decode cX0_isCarriedOut 1 = .ok (.aload_n 0, 1) := by decide +kernel
theorem dX0_isCarriedOut_2 : decode cX0_isCarriedOut 2 = .ok (.aload_n 1, 1) := by decide +kernel
theorem dX0_isCarriedOut_3 : decode cX0_isCarriedOut 3 = .ok (.invokevirtual 257, 3) := by decide +kernel
theorem dX0_isCarriedOut_6 : decode cX0_isCarriedOut 6 = .ok (.invokevirtual 261, 3) := by decide +kernel
theorem dX0_isCarriedOut_9 : decode cX0_isCarriedOut 9 = .ok (.astore_n 2, 1) := by decide +kernel
theorem dX0_isCarriedOut_10 : decode cX0_isCarriedOut 10 = .ok (.aload_n 1, 1) := by decide +kernel
theorem dX0_isCarriedOut_11 : decode cX0_isCarriedOut 11 = .ok (.invokevirtual 234, 3) := by decide +kernel
theorem dX0_isCarriedOut_14 : decode cX0_isCarriedOut 14 = .ok (.iconst 1, 1) := by decide +kernel
theorem dX0_isCarriedOut_15 : decode cX0_isCarriedOut 15 = .ok (.if_icmp .ne 21, 3) := by decide +kernel
theorem dX0_isCarriedOut_18 : decode cX0_isCarriedOut 18 = .ok (.aload_n 2, 1) := by decide +kernel
theorem dX0_isCarriedOut_19 : decode cX0_isCarriedOut 19 = .ok (.ifnonnull 15, 3) := by decide +kernel
theorem dX0_isCarriedOut_22 : decode cX0_isCarriedOut 22 = .ok (.aload_n 0, 1) := by decide +kernel
theorem dX0_isCarriedOut_23 : decode cX0_isCarriedOut 23 = .ok (.aload_n 1, 1) := by decide +kernel
theorem dX0_isCarriedOut_24 : decode cX0_isCarriedOut 24 = .ok (.invokevirtual 265, 3) := by decide +kernel
theorem dX0_isCarriedOut_27 : decode cX0_isCarriedOut 27 = .ok (.ifCond .eq 7, 3) := by decide +kernel
theorem dX0_isCarriedOut_30 : decode cX0_isCarriedOut 30 = .ok (.iconst 1, 1) := by decide +kernel
theorem dX0_isCarriedOut_31 : decode cX0_isCarriedOut 31 = .ok (.goto 4, 3) := by decide +kernel
theorem dX0_isCarriedOut_34 : decode cX0_isCarriedOut 34 = .ok (.iconst 0, 1) := by decide +kernel
theorem dX0_isCarriedOut_35 : decode cX0_isCarriedOut 35 = .ok (.ireturn, 1) := by decide +kernel
theorem dX0_isCarriedOut_36 : decode cX0_isCarriedOut 36 = .ok (.aload_n 2, 1) := by decide +kernel
theorem dX0_isCarriedOut_37 : decode cX0_isCarriedOut 37 = .ok (.ifnonnull 5, 3) := by decide +kernel
theorem dX0_isCarriedOut_40 : decode cX0_isCarriedOut 40 = .ok (.iconst 0, 1) := by decide +kernel
theorem dX0_isCarriedOut_41 : decode cX0_isCarriedOut 41 = .ok (.ireturn, 1) := by decide +kernel
theorem dX0_isCarriedOut_42 : decode cX0_isCarriedOut 42 = .ok (.aload_n 0, 1) := by decide +kernel
theorem dX0_isCarriedOut_43 : decode cX0_isCarriedOut 43 = .ok (.aload_n 1, 1) := by decide +kernel
theorem dX0_isCarriedOut_44 : decode cX0_isCarriedOut 44 = .ok (.getfield 256, 3) := by decide +kernel
theorem dX0_isCarriedOut_47 : decode cX0_isCarriedOut 47 = .ok (.invokevirtual 94, 3) := by decide +kernel
theorem dX0_isCarriedOut_50 : decode cX0_isCarriedOut 50 = .ok (.astore_n 3, 1) := by decide +kernel
theorem dX0_isCarriedOut_51 : decode cX0_isCarriedOut 51 = .ok (.aload_n 1, 1) := by decide +kernel
theorem dX0_isCarriedOut_52 : decode cX0_isCarriedOut 52 = .ok (.invokevirtual 234, 3) := by decide +kernel
theorem dX0_isCarriedOut_55 : decode cX0_isCarriedOut 55 = .ok (.tableswitch 98 2 7 #[37, 43, 49, 56, 74, 92], 37) := by decide +kernel
theorem dX0_isCarriedOut_92 : decode cX0_isCarriedOut 92 = .ok (.aload_n 0, 1) := by decide +kernel
theorem dX0_isCarriedOut_93 : decode cX0_isCarriedOut 93 = .ok (.aload_n 2, 1) := by decide +kernel
theorem dX0_isCarriedOut_94 : decode cX0_isCarriedOut 94 = .ok (.invokevirtual 268, 3) := by decide +kernel
theorem dX0_isCarriedOut_97 : decode cX0_isCarriedOut 97 = .ok (.ireturn, 1) := by decide +kernel
theorem dX0_isCarriedOut_98 : decode cX0_isCarriedOut 98 = .ok (.aload_n 0, 1) := by decide +kernel
theorem dX0_isCarriedOut_99 : decode cX0_isCarriedOut 99 = .ok (.aload_n 2, 1) := by decide +kernel
theorem dX0_isCarriedOut_100 : decode cX0_isCarriedOut 100 = .ok (.invokevirtual 272, 3) := by decide +kernel
theorem dX0_isCarriedOut_103 : decode cX0_isCarriedOut 103 = .ok (.ireturn, 1) := by decide +kernel
theorem dX0_isCarriedOut_104 : decode cX0_isCarriedOut 104 = .ok (.aload_n 0, 1) := by decide +kernel
theorem dX0_isCarriedOut_105 : decode cX0_isCarriedOut 105 = .ok (.aload_n 2, 1) := by decide +kernel
theorem dX0_isCarriedOut_106 : decode cX0_isCarriedOut 106 = .ok (.aload_n 3, 1) := by decide +kernel
theorem dX0_isCarriedOut_107 : decode cX0_isCarriedOut 107 = .ok (.invokevirtual 275, 3) := by decide +kernel
theorem dX0_isCarriedOut_110 : decode cX0_isCarriedOut 110 = .ok (.ireturn, 1) := by decide +kernel
theorem dX0_isCarriedOut_111 : decode cX0_isCarriedOut 111 = .ok (.aload_n 3, 1) := by decide +kernel
theorem dX0_isCarriedOut_112 : decode cX0_isCarriedOut 112 = .ok (.ifnull 15, 3) := by decide +kernel
theorem dX0_isCarriedOut_115 : decode cX0_isCarriedOut 115 = .ok (.aload_n 2, 1) := by decide +kernel
theorem dX0_isCarriedOut_116 : decode cX0_isCarriedOut 116 = .ok (.aload_n 3, 1) := by decide +kernel
theorem dX0_isCarriedOut_117 : decode cX0_isCarriedOut 117 = .ok (.invokestatic 279, 3) := by decide +kernel
theorem dX0_isCarriedOut_120 : decode cX0_isCarriedOut 120 = .ok (.ifCond .eq 7, 3) := by decide +kernel
theorem dX0_isCarriedOut_123 : decode cX0_isCarriedOut 123 = .ok (.iconst 1, 1) := by decide +kernel
theorem dX0_isCarriedOut_124 : decode cX0_isCarriedOut 124 = .ok (.goto 4, 3) := by decide +kernel
theorem dX0_isCarriedOut_127 : decode cX0_isCarriedOut 127 = .ok (.iconst 0, 1) := by decide +kernel
theorem dX0_isCarriedOut_128 : decode cX0_isCarriedOut 128 = .ok (.ireturn, 1) := by decide +kernel
theorem dX0_isCarriedOut_129 : decode cX0_isCarriedOut 129 = .ok (.aload_n 3, 1) := by decide +kernel
theorem dX0_isCarriedOut_130 : decode cX0_isCarriedOut 130 = .ok (.ifnull 15, 3) := by decide +kernel
theorem dX0_isCarriedOut_133 : decode cX0_isCarriedOut 133 = .ok (.aload_n 2, 1) := by decide +kernel
theorem dX0_isCarriedOut_134 : decode cX0_isCarriedOut 134 = .ok (.aload_n 3, 1) := by decide +kernel
theorem dX0_isCarriedOut_135 : decode cX0_isCarriedOut 135 = .ok (.invokestatic 282, 3) := by decide +kernel
theorem dX0_isCarriedOut_138 : decode cX0_isCarriedOut 138 = .ok (.ifCond .eq 7, 3) := by decide +kernel
theorem dX0_isCarriedOut_141 : decode cX0_isCarriedOut 141 = .ok (.iconst 1, 1) := by decide +kernel
theorem dX0_isCarriedOut_142 : decode cX0_isCarriedOut 142 = .ok (.goto 4, 3) := by decide +kernel
theorem dX0_isCarriedOut_145 : decode cX0_isCarriedOut 145 = .ok (.iconst 0, 1) := by decide +kernel
theorem dX0_isCarriedOut_146 : decode cX0_isCarriedOut 146 = .ok (.ireturn, 1) := by decide +kernel
theorem dX0_isCarriedOut_147 : decode cX0_isCarriedOut 147 = .ok (.aload_n 0, 1) := by decide +kernel
theorem dX0_isCarriedOut_148 : decode cX0_isCarriedOut 148 = .ok (.aload_n 2, 1) := by decide +kernel
theorem dX0_isCarriedOut_149 : decode cX0_isCarriedOut 149 = .ok (.invokevirtual 285, 3) := by decide +kernel
theorem dX0_isCarriedOut_152 : decode cX0_isCarriedOut 152 = .ok (.ireturn, 1) := by decide +kernel
theorem dX0_isCarriedOut_153 : decode cX0_isCarriedOut 153 = .ok (.iconst 0, 1) := by decide +kernel
theorem dX0_isCarriedOut_154 : decode cX0_isCarriedOut 154 = .ok (.ireturn, 1) := by decide +kernel
theorem dX0_take_0 : decode cX0_take 0 = .ok (.aload_n 0, 1) := by decide +kernel
theorem dX0_take_1 : decode cX0_take 1 = .ok (.aload_n 1, 1) := by decide +kernel
theorem dX0_take_2 : decode cX0_take 2 = .ok (.getfield 256, 3) := by decide +kernel
theorem dX0_take_5 : decode cX0_take 5 = .ok (.invokevirtual 288, 3) := by decide +kernel
theorem dX0_take_8 : decode cX0_take 8 = .ok (.astore_n 2, 1) := by decide +kernel
theorem dX0_take_9 : decode cX0_take 9 = .ok (.aload_n 2, 1) := by decide +kernel
theorem dX0_take_10 : decode cX0_take 10 = .ok (.ifnonnull 5, 3) := by decide +kernel
theorem dX0_take_13 : decode cX0_take 13 = .ok (.iconst 0, 1) := by decide +kernel
theorem dX0_take_14 : decode cX0_take 14 = .ok (.ireturn, 1) := by decide +kernel
theorem dX0_take_15 : decode cX0_take 15 = .ok (.aload_n 2, 1) := by decide +kernel
theorem dX0_take_16 : decode cX0_take 16 = .ok (.aload_n 1, 1) := by decide +kernel
theorem dX0_take_17 : decode cX0_take 17 = .ok (.getfield 101, 3) := by decide +kernel
theorem dX0_take_20 : decode cX0_take 20 = .ok (.putfield 98, 3) := by decide +kernel
theorem dX0_take_23 : decode cX0_take 23 = .ok (.iconst 1, 1) := by decide +kernel
theorem dX0_take_24 : decode cX0_take 24 = .ok (.ireturn, 1) := by decide +kernel
theorem dX0_set_0 : decode cX0_set 0 = .ok (.aload_n 0, 1) := by decide +kernel
theorem dX0_set_1 : decode cX0_set 1 = .ok (.aload_n 1, 1) := by decide +kernel
theorem dX0_set_2 : decode cX0_set 2 = .ok (.getfield 104, 3) := by decide +kernel
theorem dX0_set_5 : decode cX0_set 5 = .ok (.invokevirtual 291, 3) := by decide +kernel
theorem dX0_set_8 : decode cX0_set 8 = .ok (.ifCond .eq 14, 3) := by decide +kernel
theorem dX0_set_11 : decode cX0_set 11 = .ok (.aload_n 0, 1) := by decide +kernel
theorem dX0_set_12 : decode cX0_set 12 = .ok (.aload_n 1, 1) := by decide +kernel
theorem dX0_set_13 : decode cX0_set 13 = .ok (.getfield 104, 3) := by decide +kernel
theorem dX0_set_16 : decode cX0_set 16 = .ok (.invokevirtual 288, 3) := by decide +kernel
theorem dX0_set_19 : decode cX0_set 19 = .ok (.ifnull 5, 3) := by decide +kernel
theorem dX0_set_22 : decode cX0_set 22 = .ok (.iconst 0, 1) := by decide +kernel
theorem dX0_set_23 : decode cX0_set 23 = .ok (.ireturn, 1) := by decide +kernel
theorem dX0_set_24 : decode cX0_set 24 = .ok (.aload_n 1, 1) := by decide +kernel
theorem dX0_set_25 : decode cX0_set 25 = .ok (.bipush (-4), 2) := by decide +kernel
theorem dX0_set_27 : decode cX0_set 27 = .ok (.putfield 98, 3) := by decide +kernel
theorem dX0_set_30 : decode cX0_set 30 = .ok (.iconst 1, 1) := by decide +kernel
theorem dX0_set_31 : decode cX0_set 31 = .ok (.ireturn, 1) := by decide +kernel
theorem dX0_tap_0 : decode cX0_tap 0 = .ok (.aload_n 0, 1) := by decide +kernel
theorem dX0_tap_1 : decode cX0_tap 1 = .ok (.getfield 12, 3) := by decide +kernel
theorem dX0_tap_4 : decode cX0_tap 4 = .ok (.invokevirtual 165, 3) := by decide +kernel
theorem dX0_tap_7 : decode cX0_tap 7 = .ok (.istore_n 2, 1) := by decide +kernel
theorem dX0_tap_8 : decode cX0_tap 8 = .ok (.iload_n 2, 1) := by decide +kernel
theorem dX0_tap_9 : decode cX0_tap 9 = .ok (.aload_n 1, 1) := by decide +kernel
theorem dX0_tap_10 : decode cX0_tap 10 = .ok (.invokevirtual 295, 3) := by decide +kernel
theorem dX0_tap_13 : decode cX0_tap 13 = .ok (.invokestatic 200, 3) := by decide +kernel
theorem dX0_tap_16 : decode cX0_tap 16 = .ok (.istore_n 3, 1) := by decide +kernel
theorem dX0_tap_17 : decode cX0_tap 17 = .ok (.aload_n 1, 1) := by decide +kernel
theorem dX0_tap_18 : decode cX0_tap 18 = .ok (.getfield 104, 3) := by decide +kernel
theorem dX0_tap_21 : decode cX0_tap 21 = .ok (.ifCond .ne 20, 3) := by decide +kernel
theorem dX0_tap_24 : decode cX0_tap 24 = .ok (.aload_n 1, 1) := by decide +kernel
theorem dX0_tap_25 : decode cX0_tap 25 = .ok (.getfield 298, 3) := by decide +kernel
theorem dX0_tap_28 : decode cX0_tap 28 = .ok (.ifCond .ne 13, 3) := by decide +kernel
theorem dX0_tap_31 : decode cX0_tap 31 = .ok (.iload_n 2, 1) := by decide +kernel
theorem dX0_tap_32 : decode cX0_tap 32 = .ok (.iconst 1, 1) := by decide +kernel
theorem dX0_tap_33 : decode cX0_tap 33 = .ok (.if_icmp .lt 8, 3) := by decide +kernel
theorem dX0_tap_36 : decode cX0_tap 36 = .ok (.iload_n 3, 1) := by decide +kernel
theorem dX0_tap_37 : decode cX0_tap 37 = .ok (.iconst 1, 1) := by decide +kernel
theorem dX0_tap_38 : decode cX0_tap 38 = .ok (.if_icmp .ge 5, 3) := by decide +kernel
theorem dX0_tap_41 : decode cX0_tap 41 = .ok (.iconst 0, 1) := by decide +kernel
theorem dX0_tap_42 : decode cX0_tap 42 = .ok (.ireturn, 1) := by decide +kernel
theorem dX0_tap_43 : decode cX0_tap 43 = .ok (.aload_n 0, 1) := by decide +kernel
theorem dX0_tap_44 : decode cX0_tap 44 = .ok (.getfield 12, 3) := by decide +kernel
theorem dX0_tap_47 : decode cX0_tap 47 = .ok (.getfield 209, 3) := by decide +kernel
theorem dX0_tap_50 : decode cX0_tap 50 = .ok (.iload_n 3, 1) := by decide +kernel
theorem dX0_tap_51 : decode cX0_tap 51 = .ok (.imul, 1) := by decide +kernel
theorem dX0_tap_52 : decode cX0_tap 52 = .ok (.iload_n 2, 1) := by decide +kernel
theorem dX0_tap_53 : decode cX0_tap 53 = .ok (.idiv, 1) := by decide +kernel
theorem dX0_tap_54 : decode cX0_tap 54 = .ok (.istore 4, 2) := by decide +kernel
theorem dX0_tap_56 : decode cX0_tap 56 = .ok (.aload_n 0, 1) := by decide +kernel
theorem dX0_tap_57 : decode cX0_tap 57 = .ok (.getfield 12, 3) := by decide +kernel
theorem dX0_tap_60 : decode cX0_tap 60 = .ok (.getfield 197, 3) := by decide +kernel
theorem dX0_tap_63 : decode cX0_tap 63 = .ok (.iload_n 3, 1) := by decide +kernel
theorem dX0_tap_64 : decode cX0_tap 64 = .ok (.imul, 1) := by decide +kernel
theorem dX0_tap_65 : decode cX0_tap 65 = .ok (.iload_n 2, 1) := by decide +kernel
theorem dX0_tap_66 : decode cX0_tap 66 = .ok (.idiv, 1) := by decide +kernel
theorem dX0_tap_67 : decode cX0_tap 67 = .ok (.istore 5, 2) := by decide +kernel
theorem dX0_tap_69 : decode cX0_tap 69 = .ok (.iload_n 3, 1) := by decide +kernel
theorem dX0_tap_70 : decode cX0_tap 70 = .ok (.iload 4, 2) := by decide +kernel
theorem dX0_tap_72 : decode cX0_tap 72 = .ok (.isub, 1) := by decide +kernel
theorem dX0_tap_73 : decode cX0_tap 73 = .ok (.iload 5, 2) := by decide +kernel
theorem dX0_tap_75 : decode cX0_tap 75 = .ok (.isub, 1) := by decide +kernel
theorem dX0_tap_76 : decode cX0_tap 76 = .ok (.aload_n 0, 1) := by decide +kernel
theorem dX0_tap_77 : decode cX0_tap 77 = .ok (.getfield 12, 3) := by decide +kernel
theorem dX0_tap_80 : decode cX0_tap 80 = .ok (.getfield 206, 3) := by decide +kernel
theorem dX0_tap_83 : decode cX0_tap 83 = .ok (.invokestatic 200, 3) := by decide +kernel
theorem dX0_tap_86 : decode cX0_tap 86 = .ok (.istore 6, 2) := by decide +kernel
theorem dX0_tap_88 : decode cX0_tap 88 = .ok (.iload_n 3, 1) := by decide +kernel
theorem dX0_tap_89 : decode cX0_tap 89 = .ok (.iload 4, 2) := by decide +kernel
theorem dX0_tap_91 : decode cX0_tap 91 = .ok (.isub, 1) := by decide +kernel
theorem dX0_tap_92 : decode cX0_tap 92 = .ok (.iload 5, 2) := by decide +kernel
theorem dX0_tap_94 : decode cX0_tap 94 = .ok (.isub, 1) := by decide +kernel
theorem dX0_tap_95 : decode cX0_tap 95 = .ok (.iload 6, 2) := by decide +kernel
theorem dX0_tap_97 : decode cX0_tap 97 = .ok (.isub, 1) := by decide +kernel
theorem dX0_tap_98 : decode cX0_tap 98 = .ok (.istore 7, 2) := by decide +kernel
theorem dX0_tap_100 : decode cX0_tap 100 = .ok (.iload 5, 2) := by decide +kernel
theorem dX0_tap_102 : decode cX0_tap 102 = .ok (.iload 7, 2) := by decide +kernel
theorem dX0_tap_104 : decode cX0_tap 104 = .ok (.aload_n 0, 1) := by decide +kernel
theorem dX0_tap_105 : decode cX0_tap 105 = .ok (.getfield 12, 3) := by decide +kernel
theorem dX0_tap_108 : decode cX0_tap 108 = .ok (.getfield 197, 3) := by decide +kernel
theorem dX0_tap_111 : decode cX0_tap 111 = .ok (.iload 5, 2) := by decide +kernel
theorem dX0_tap_113 : decode cX0_tap 113 = .ok (.isub, 1) := by decide +kernel
theorem dX0_tap_114 : decode cX0_tap 114 = .ok (.invokestatic 200, 3) := by decide +kernel
theorem dX0_tap_117 : decode cX0_tap 117 = .ok (.iadd, 1) := by decide +kernel
theorem dX0_tap_118 : decode cX0_tap 118 = .ok (.istore 5, 2) := by decide +kernel
theorem dX0_tap_120 : decode cX0_tap 120 = .ok (.iload_n 3, 1) := by decide +kernel
theorem dX0_tap_121 : decode cX0_tap 121 = .ok (.iload 5, 2) := by decide +kernel
theorem dX0_tap_123 : decode cX0_tap 123 = .ok (.isub, 1) := by decide +kernel
theorem dX0_tap_124 : decode cX0_tap 124 = .ok (.iload 6, 2) := by decide +kernel
theorem dX0_tap_126 : decode cX0_tap 126 = .ok (.isub, 1) := by decide +kernel
theorem dX0_tap_127 : decode cX0_tap 127 = .ok (.istore 4, 2) := by decide +kernel
theorem dX0_tap_129 : decode cX0_tap 129 = .ok (.aload_n 1, 1) := by decide +kernel
theorem dX0_tap_130 : decode cX0_tap 130 = .ok (.iconst 1, 1) := by decide +kernel
theorem dX0_tap_131 : decode cX0_tap 131 = .ok (.putfield 298, 3) := by decide +kernel
theorem dX0_tap_134 : decode cX0_tap 134 = .ok (.aload_n 0, 1) := by decide +kernel
theorem dX0_tap_135 : decode cX0_tap 135 = .ok (.aload_n 1, 1) := by decide +kernel
theorem dX0_tap_136 : decode cX0_tap 136 = .ok (.iconst 1, 1) := by decide +kernel
theorem dX0_tap_137 : decode cX0_tap 137 = .ok (.iload 4, 2) := by decide +kernel
theorem dX0_tap_139 : decode cX0_tap 139 = .ok (.invokevirtual 301, 3) := by decide +kernel
theorem dX0_tap_142 : decode cX0_tap 142 = .ok (.aload_n 0, 1) := by decide +kernel
theorem dX0_tap_143 : decode cX0_tap 143 = .ok (.aload_n 1, 1) := by decide +kernel
theorem dX0_tap_144 : decode cX0_tap 144 = .ok (.iconst 2, 1) := by decide +kernel
theorem dX0_tap_145 : decode cX0_tap 145 = .ok (.iload 5, 2) := by decide +kernel
theorem dX0_tap_147 : decode cX0_tap 147 = .ok (.invokevirtual 301, 3) := by decide +kernel
theorem dX0_tap_150 : decode cX0_tap 150 = .ok (.aload_n 0, 1) := by decide +kernel
theorem dX0_tap_151 : decode cX0_tap 151 = .ok (.aload_n 1, 1) := by decide +kernel
theorem dX0_tap_152 : decode cX0_tap 152 = .ok (.iconst 3, 1) := by decide +kernel
theorem dX0_tap_153 : decode cX0_tap 153 = .ok (.iload 6, 2) := by decide +kernel
theorem dX0_tap_155 : decode cX0_tap 155 = .ok (.invokevirtual 301, 3) := by decide +kernel
theorem dX0_tap_158 : decode cX0_tap 158 = .ok (.iconst 1, 1) := by decide +kernel
theorem dX0_tap_159 : decode cX0_tap 159 = .ok (.ireturn, 1) := by decide +kernel
theorem dX0_tapStuff_0 : decode cX0_tapStuff 0 = .ok (.aload_n 0, 1) := by decide +kernel
theorem dX0_tapStuff_1 : decode cX0_tapStuff 1 = .ok (.getfield 12, 3) := by decide +kernel
theorem dX0_tapStuff_4 : decode cX0_tapStuff 4 = .ok (.iload_n 2, 1) := by decide +kernel
theorem dX0_tapStuff_5 : decode cX0_tapStuff 5 = .ok (.iload_n 3, 1) := by decide +kernel
theorem dX0_tapStuff_6 : decode cX0_tapStuff 6 = .ok (.ineg, 1) := by decide +kernel
theorem dX0_tapStuff_7 : decode cX0_tapStuff 7 = .ok (.invokevirtual 175, 3) := by decide +kernel
theorem dX0_tapStuff_10 : decode cX0_tapStuff 10 = .ok (.aload_n 1, 1) := by decide +kernel
theorem dX0_tapStuff_11 : decode cX0_tapStuff 11 = .ok (.getfield 145, 3) := by decide +kernel
theorem dX0_tapStuff_14 : decode cX0_tapStuff 14 = .ok (.iload_n 2, 1) := by decide +kernel
theorem dX0_tapStuff_15 : decode cX0_tapStuff 15 = .ok (.iload_n 3, 1) := by decide +kernel
theorem dX0_tapStuff_16 : decode cX0_tapStuff 16 = .ok (.invokevirtual 175, 3) := by decide +kernel
theorem dX0_tapStuff_19 : decode cX0_tapStuff 19 = .ok (.return_, 1) := by decide +kernel
theorem dX0_pour_0 : decode cX0_pour 0 = .ok (.aload_n 1, 1) := by decide +kernel
theorem dX0_pour_1 : decode cX0_pour 1 = .ok (.invokevirtual 305, 3) := by decide +kernel
theorem dX0_pour_4 : decode cX0_pour 4 = .ok (.istore_n 3, 1) := by decide +kernel
theorem dX0_pour_5 : decode cX0_pour 5 = .ok (.aload_n 1, 1) := by decide +kernel
theorem dX0_pour_6 : decode cX0_pour 6 = .ok (.getfield 145, 3) := by decide +kernel
theorem dX0_pour_9 : decode cX0_pour 9 = .ok (.invokevirtual 165, 3) := by decide +kernel
theorem dX0_pour_12 : decode cX0_pour 12 = .ok (.iload_n 3, 1) := by decide +kernel
theorem dX0_pour_13 : decode cX0_pour 13 = .ok (.isub, 1) := by decide +kernel
theorem dX0_pour_14 : decode cX0_pour 14 = .ok (.istore 4, 2) := by decide +kernel
theorem dX0_pour_16 : decode cX0_pour 16 = .ok (.aload_n 1, 1) := by decide +kernel
theorem dX0_pour_17 : decode cX0_pour 17 = .ok (.aload_n 2, 1) := by decide +kernel
theorem dX0_pour_18 : decode cX0_pour 18 = .ok (.iload 4, 2) := by decide +kernel
theorem dX0_pour_20 : decode cX0_pour 20 = .ok (.invokestatic 308, 3) := by decide +kernel
theorem dX0_pour_23 : decode cX0_pour 23 = .ok (.ifCond .ne 5, 3) := by decide +kernel
theorem dX0_pour_26 : decode cX0_pour 26 = .ok (.iconst 0, 1) := by decide +kernel
theorem dX0_pour_27 : decode cX0_pour 27 = .ok (.ireturn, 1) := by decide +kernel
theorem dX0_pour_28 : decode cX0_pour 28 = .ok (.aload_n 1, 1) := by decide +kernel
theorem dX0_pour_29 : decode cX0_pour 29 = .ok (.iload_n 3, 1) := by decide +kernel
theorem dX0_pour_30 : decode cX0_pour 30 = .ok (.invokevirtual 312, 3) := by decide +kernel
theorem dX0_pour_33 : decode cX0_pour 33 = .ok (.aload_n 2, 1) := by decide +kernel
theorem dX0_pour_34 : decode cX0_pour 34 = .ok (.ifnull 26, 3) := by decide +kernel
theorem dX0_pour_37 : decode cX0_pour 37 = .ok (.aload_n 2, 1) := by decide +kernel
theorem dX0_pour_38 : decode cX0_pour 38 = .ok (.sipush 1150, 3) := by decide +kernel
theorem dX0_pour_41 : decode cX0_pour 41 = .ok (.iload 4, 2) := by decide +kernel
theorem dX0_pour_43 : decode cX0_pour 43 = .ok (.invokevirtual 315, 3) := by decide +kernel
theorem dX0_pour_46 : decode cX0_pour 46 = .ok (.aload_n 2, 1) := by decide +kernel
theorem dX0_pour_47 : decode cX0_pour 47 = .ok (.getfield 142, 3) := by decide +kernel
theorem dX0_pour_50 : decode cX0_pour 50 = .ok (.aload_n 1, 1) := by decide +kernel
theorem dX0_pour_51 : decode cX0_pour 51 = .ok (.getfield 145, 3) := by decide +kernel
theorem dX0_pour_54 : decode cX0_pour 54 = .ok (.invokevirtual 318, 3) := by decide +kernel
theorem dX0_pour_57 : decode cX0_pour 57 = .ok (.goto 68, 3) := by decide +kernel
theorem dX0_pour_60 : decode cX0_pour 60 = .ok (.aload_n 1, 1) := by decide +kernel
theorem dX0_pour_61 : decode cX0_pour 61 = .ok (.getfield 104, 3) := by decide +kernel
theorem dX0_pour_64 : decode cX0_pour 64 = .ok (.iconst 2, 1) := by decide +kernel
theorem dX0_pour_65 : decode cX0_pour 65 = .ok (.if_icmp .ne 20, 3) := by decide +kernel
theorem dX0_pour_68 : decode cX0_pour 68 = .ok (.aload_n 0, 1) := by decide +kernel
theorem dX0_pour_69 : decode cX0_pour 69 = .ok (.getfield 52, 3) := by decide +kernel
theorem dX0_pour_72 : decode cX0_pour 72 = .ok (.getfield 124, 3) := by decide +kernel
theorem dX0_pour_75 : decode cX0_pour 75 = .ok (.aload_n 1, 1) := by decide +kernel
theorem dX0_pour_76 : decode cX0_pour 76 = .ok (.getfield 145, 3) := by decide +kernel
theorem dX0_pour_79 : decode cX0_pour 79 = .ok (.invokevirtual 318, 3) := by decide +kernel
theorem dX0_pour_82 : decode cX0_pour 82 = .ok (.goto 43, 3) := by decide +kernel
theorem dX0_pour_85 : decode cX0_pour 85 = .ok (.aload_n 1, 1) := by decide +kernel
theorem dX0_pour_86 : decode cX0_pour 86 = .ok (.getfield 104, 3) := by decide +kernel
theorem dX0_pour_89 : decode cX0_pour 89 = .ok (.ifCond .ne 20, 3) := by decide +kernel
theorem dX0_pour_92 : decode cX0_pour 92 = .ok (.aload_n 0, 1) := by decide +kernel
theorem dX0_pour_93 : decode cX0_pour 93 = .ok (.getfield 52, 3) := by decide +kernel
theorem dX0_pour_96 : decode cX0_pour 96 = .ok (.getfield 127, 3) := by decide +kernel
theorem dX0_pour_99 : decode cX0_pour 99 = .ok (.aload_n 1, 1) := by decide +kernel
theorem dX0_pour_100 : decode cX0_pour 100 = .ok (.getfield 145, 3) := by decide +kernel
theorem dX0_pour_103 : decode cX0_pour 103 = .ok (.invokevirtual 318, 3) := by decide +kernel
theorem dX0_pour_106 : decode cX0_pour 106 = .ok (.goto 19, 3) := by decide +kernel
theorem dX0_pour_109 : decode cX0_pour 109 = .ok (.aload_n 0, 1) := by decide +kernel
theorem dX0_pour_110 : decode cX0_pour 110 = .ok (.dup, 1) := by decide +kernel
theorem dX0_pour_111 : decode cX0_pour 111 = .ok (.getfield 80, 3) := by decide +kernel
theorem dX0_pour_114 : decode cX0_pour 114 = .ok (.aload_n 1, 1) := by decide +kernel
theorem dX0_pour_115 : decode cX0_pour 115 = .ok (.getfield 145, 3) := by decide +kernel
theorem dX0_pour_118 : decode cX0_pour 118 = .ok (.getfield 209, 3) := by decide +kernel
theorem dX0_pour_121 : decode cX0_pour 121 = .ok (.iadd, 1) := by decide +kernel
theorem dX0_pour_122 : decode cX0_pour 122 = .ok (.putfield 80, 3) := by decide +kernel
theorem dX0_pour_125 : decode cX0_pour 125 = .ok (.aload_n 1, 1) := by decide +kernel
theorem dX0_pour_126 : decode cX0_pour 126 = .ok (.invokevirtual 321, 3) := by decide +kernel
theorem dX0_pour_129 : decode cX0_pour 129 = .ok (.iconst 1, 1) := by decide +kernel
theorem dX0_pour_130 : decode cX0_pour 130 = .ok (.ireturn, 1) := by decide +kernel
theorem dX0_canPour_0 : decode cX0_canPour 0 = .ok (.aload_n 0, 1) := by decide +kernel
theorem dX0_canPour_1 : decode cX0_canPour 1 = .ok (.getfield 298, 3) := by decide +kernel
theorem dX0_canPour_4 : decode cX0_canPour 4 = .ok (.tableswitch 89 1 3 #[28, 53, 74], 28) := by decide +kernel
theorem dX0_canPour_32 : decode cX0_canPour 32 = .ok (.aload_n 1, 1) := by decide +kernel
theorem dX0_canPour_33 : decode cX0_canPour 33 = .ok (.ifnull 22, 3) := by decide +kernel
theorem dX0_canPour_36 : decode cX0_canPour 36 = .ok (.aload_n 1, 1) := by decide +kernel
theorem dX0_canPour_37 : decode cX0_canPour 37 = .ok (.getfield 142, 3) := by decide +kernel
theorem dX0_canPour_40 : decode cX0_canPour 40 = .ok (.invokevirtual 165, 3) := by decide +kernel
theorem dX0_canPour_43 : decode cX0_canPour 43 = .ok (.iload_n 2, 1) := by decide +kernel
theorem dX0_canPour_44 : decode cX0_canPour 44 = .ok (.iadd, 1) := by decide +kernel
theorem dX0_canPour_45 : decode cX0_canPour 45 = .ok (.sipush 300, 3) := by decide +kernel
theorem dX0_canPour_48 : decode cX0_canPour 48 = .ok (.if_icmp .gt 7, 3) := by decide +kernel
theorem dX0_canPour_51 : decode cX0_canPour 51 = .ok (.iconst 1, 1) := by decide +kernel
theorem dX0_canPour_52 : decode cX0_canPour 52 = .ok (.goto 4, 3) := by decide +kernel
theorem dX0_canPour_55 : decode cX0_canPour 55 = .ok (.iconst 0, 1) := by decide +kernel
theorem dX0_canPour_56 : decode cX0_canPour 56 = .ok (.ireturn, 1) := by decide +kernel
theorem dX0_canPour_57 : decode cX0_canPour 57 = .ok (.aload_n 0, 1) := by decide +kernel
theorem dX0_canPour_58 : decode cX0_canPour 58 = .ok (.getfield 104, 3) := by decide +kernel
theorem dX0_canPour_61 : decode cX0_canPour 61 = .ok (.iconst 2, 1) := by decide +kernel
theorem dX0_canPour_62 : decode cX0_canPour 62 = .ok (.if_icmp .eq 10, 3) := by decide +kernel
theorem dX0_canPour_65 : decode cX0_canPour 65 = .ok (.aload_n 0, 1) := by decide +kernel
theorem dX0_canPour_66 : decode cX0_canPour 66 = .ok (.getfield 104, 3) := by decide +kernel
theorem dX0_canPour_69 : decode cX0_canPour 69 = .ok (.ifCond .ne 7, 3) := by decide +kernel
theorem dX0_canPour_72 : decode cX0_canPour 72 = .ok (.iconst 1, 1) := by decide +kernel
theorem dX0_canPour_73 : decode cX0_canPour 73 = .ok (.goto 4, 3) := by decide +kernel
theorem dX0_canPour_76 : decode cX0_canPour 76 = .ok (.iconst 0, 1) := by decide +kernel
theorem dX0_canPour_77 : decode cX0_canPour 77 = .ok (.ireturn, 1) := by decide +kernel
theorem dX0_canPour_78 : decode cX0_canPour 78 = .ok (.aload_n 0, 1) := by decide +kernel
theorem dX0_canPour_79 : decode cX0_canPour 79 = .ok (.getfield 104, 3) := by decide +kernel
theorem dX0_canPour_82 : decode cX0_canPour 82 = .ok (.bipush 15, 2) := by decide +kernel
theorem dX0_canPour_84 : decode cX0_canPour 84 = .ok (.if_icmp .ne 7, 3) := by decide +kernel
theorem dX0_canPour_87 : decode cX0_canPour 87 = .ok (.iconst 1, 1) := by decide +kernel
theorem dX0_canPour_88 : decode cX0_canPour 88 = .ok (.goto 4, 3) := by decide +kernel
theorem dX0_canPour_91 : decode cX0_canPour 91 = .ok (.iconst 0, 1) := by decide +kernel
theorem dX0_canPour_92 : decode cX0_canPour 92 = .ok (.ireturn, 1) := by decide +kernel
theorem dX0_canPour_93 : decode cX0_canPour 93 = .ok (.iconst 0, 1) := by decide +kernel
theorem dX0_canPour_94 : decode cX0_canPour 94 = .ok (.ireturn, 1) := by decide +kernel
theorem dX0_skim_0 : decode cX0_skim 0 = .ok (.aload_n 0, 1) := by decide +kernel
theorem dX0_skim_1 : decode cX0_skim 1 = .ok (.getfield 298, 3) := by decide +kernel
theorem dX0_skim_4 : decode cX0_skim 4 = .ok (.ifCond .eq 11, 3) := by decide +kernel
theorem dX0_skim_7 : decode cX0_skim 7 = .ok (.aload_n 0, 1) := by decide +kernel
theorem dX0_skim_8 : decode cX0_skim 8 = .ok (.getfield 298, 3) := by decide +kernel
theorem dX0_skim_11 : decode cX0_skim 11 = .ok (.iconst 2, 1) := by decide +kernel
theorem dX0_skim_12 : decode cX0_skim 12 = .ok (.if_icmp .ne 7, 3) := by decide +kernel
theorem dX0_skim_15 : decode cX0_skim 15 = .ok (.iconst 1, 1) := by decide +kernel
theorem dX0_skim_16 : decode cX0_skim 16 = .ok (.goto 4, 3) := by decide +kernel
theorem dX0_skim_19 : decode cX0_skim 19 = .ok (.iconst 0, 1) := by decide +kernel
theorem dX0_skim_20 : decode cX0_skim 20 = .ok (.istore_n 2, 1) := by decide +kernel
theorem dX0_skim_21 : decode cX0_skim 21 = .ok (.aload_n 1, 1) := by decide +kernel
theorem dX0_skim_22 : decode cX0_skim 22 = .ok (.getfield 142, 3) := by decide +kernel
theorem dX0_skim_25 : decode cX0_skim 25 = .ok (.getfield 222, 3) := by decide +kernel
theorem dX0_skim_28 : decode cX0_skim 28 = .ok (.aload_n 0, 1) := by decide +kernel
theorem dX0_skim_29 : decode cX0_skim 29 = .ok (.invokevirtual 295, 3) := by decide +kernel
theorem dX0_skim_32 : decode cX0_skim 32 = .ok (.invokestatic 200, 3) := by decide +kernel
theorem dX0_skim_35 : decode cX0_skim 35 = .ok (.istore_n 3, 1) := by decide +kernel
theorem dX0_skim_36 : decode cX0_skim 36 = .ok (.iload_n 2, 1) := by decide +kernel
theorem dX0_skim_37 : decode cX0_skim 37 = .ok (.ifCond .eq 8, 3) := by decide +kernel
theorem dX0_skim_40 : decode cX0_skim 40 = .ok (.iload_n 3, 1) := by decide +kernel
theorem dX0_skim_41 : decode cX0_skim 41 = .ok (.iconst 1, 1) := by decide +kernel
theorem dX0_skim_42 : decode cX0_skim 42 = .ok (.if_icmp .ge 5, 3) := by decide +kernel
theorem dX0_skim_45 : decode cX0_skim 45 = .ok (.iconst 0, 1) := by decide +kernel
theorem dX0_skim_46 : decode cX0_skim 46 = .ok (.ireturn, 1) := by decide +kernel
theorem dX0_skim_47 : decode cX0_skim 47 = .ok (.aload_n 1, 1) := by decide +kernel
theorem dX0_skim_48 : decode cX0_skim 48 = .ok (.getfield 142, 3) := by decide +kernel
theorem dX0_skim_51 : decode cX0_skim 51 = .ok (.dup, 1) := by decide +kernel
theorem dX0_skim_52 : decode cX0_skim 52 = .ok (.getfield 222, 3) := by decide +kernel
theorem dX0_skim_55 : decode cX0_skim 55 = .ok (.iload_n 3, 1) := by decide +kernel
theorem dX0_skim_56 : decode cX0_skim 56 = .ok (.isub, 1) := by decide +kernel
theorem dX0_skim_57 : decode cX0_skim 57 = .ok (.putfield 222, 3) := by decide +kernel
theorem dX0_skim_60 : decode cX0_skim 60 = .ok (.aload_n 0, 1) := by decide +kernel
theorem dX0_skim_61 : decode cX0_skim 61 = .ok (.getfield 145, 3) := by decide +kernel
theorem dX0_skim_64 : decode cX0_skim 64 = .ok (.dup, 1) := by decide +kernel
theorem dX0_skim_65 : decode cX0_skim 65 = .ok (.getfield 222, 3) := by decide +kernel
theorem dX0_skim_68 : decode cX0_skim 68 = .ok (.iload_n 3, 1) := by decide +kernel
theorem dX0_skim_69 : decode cX0_skim 69 = .ok (.iadd, 1) := by decide +kernel
theorem dX0_skim_70 : decode cX0_skim 70 = .ok (.putfield 222, 3) := by decide +kernel
theorem dX0_skim_73 : decode cX0_skim 73 = .ok (.aload_n 0, 1) := by decide +kernel
theorem dX0_skim_74 : decode cX0_skim 74 = .ok (.iconst 2, 1) := by decide +kernel
theorem dX0_skim_75 : decode cX0_skim 75 = .ok (.putfield 298, 3) := by decide +kernel
theorem dX0_skim_78 : decode cX0_skim 78 = .ok (.iconst 1, 1) := by decide +kernel
theorem dX0_skim_79 : decode cX0_skim 79 = .ok (.ireturn, 1) := by decide +kernel
theorem dX0_draw_0 : decode cX0_draw 0 = .ok (.aload_n 1, 1) := by decide +kernel
theorem dX0_draw_1 : decode cX0_draw 1 = .ok (.getfield 181, 3) := by decide +kernel
theorem dX0_draw_4 : decode cX0_draw 4 = .ok (.ifCond .ne 17, 3) := by decide +kernel
theorem dX0_draw_7 : decode cX0_draw 7 = .ok (.aload_n 1, 1) := by decide +kernel
theorem dX0_draw_8 : decode cX0_draw 8 = .ok (.invokevirtual 324, 3) := by decide +kernel
theorem dX0_draw_11 : decode cX0_draw 11 = .ok (.ifCond .eq 10, 3) := by decide +kernel
theorem dX0_draw_14 : decode cX0_draw 14 = .ok (.aload_n 0, 1) := by decide +kernel
theorem dX0_draw_15 : decode cX0_draw 15 = .ok (.getfield 298, 3) := by decide +kernel
theorem dX0_draw_18 : decode cX0_draw 18 = .ok (.ifCond .eq 5, 3) := by decide +kernel
theorem dX0_draw_21 : decode cX0_draw 21 = .ok (.iconst 0, 1) := by decide +kernel
theorem dX0_draw_22 : decode cX0_draw 22 = .ok (.ireturn, 1) := by decide +kernel
theorem dX0_draw_23 : decode cX0_draw 23 = .ok (.aload_n 1, 1) := by decide +kernel
theorem dX0_draw_24 : decode cX0_draw 24 = .ok (.getfield 142, 3) := by decide +kernel
theorem dX0_draw_27 : decode cX0_draw 27 = .ok (.getfield 209, 3) := by decide +kernel
theorem dX0_draw_30 : decode cX0_draw 30 = .ok (.aload_n 0, 1) := by decide +kernel
theorem dX0_draw_31 : decode cX0_draw 31 = .ok (.invokevirtual 295, 3) := by decide +kernel
theorem dX0_draw_34 : decode cX0_draw 34 = .ok (.invokestatic 200, 3) := by decide +kernel
theorem dX0_draw_37 : decode cX0_draw 37 = .ok (.istore_n 2, 1) := by decide +kernel
theorem dX0_draw_38 : decode cX0_draw 38 = .ok (.aload_n 1, 1) := by decide +kernel
theorem dX0_draw_39 : decode cX0_draw 39 = .ok (.getfield 142, 3) := by decide +kernel
theorem dX0_draw_42 : decode cX0_draw 42 = .ok (.dup, 1) := by decide +kernel
theorem dX0_draw_43 : decode cX0_draw 43 = .ok (.getfield 209, 3) := by decide +kernel
theorem dX0_draw_46 : decode cX0_draw 46 = .ok (.iload_n 2, 1) := by decide +kernel
theorem dX0_draw_47 : decode cX0_draw 47 = .ok (.isub, 1) := by decide +kernel
theorem dX0_draw_48 : decode cX0_draw 48 = .ok (.putfield 209, 3) := by decide +kernel
theorem dX0_draw_51 : decode cX0_draw 51 = .ok (.aload_n 0, 1) := by decide +kernel
theorem dX0_draw_52 : decode cX0_draw 52 = .ok (.getfield 145, 3) := by decide +kernel
theorem dX0_draw_55 : decode cX0_draw 55 = .ok (.dup, 1) := by decide +kernel
theorem dX0_draw_56 : decode cX0_draw 56 = .ok (.getfield 209, 3) := by decide +kernel
theorem dX0_draw_59 : decode cX0_draw 59 = .ok (.iload_n 2, 1) := by decide +kernel
theorem dX0_draw_60 : decode cX0_draw 60 = .ok (.iadd, 1) := by decide +kernel
theorem dX0_draw_61 : decode cX0_draw 61 = .ok (.putfield 209, 3) := by decide +kernel
theorem dX0_draw_64 : decode cX0_draw 64 = .ok (.aload_n 0, 1) := by decide +kernel
theorem dX0_draw_65 : decode cX0_draw 65 = .ok (.iconst 3, 1) := by decide +kernel
theorem dX0_draw_66 : decode cX0_draw 66 = .ok (.putfield 298, 3) := by decide +kernel
theorem dX0_draw_69 : decode cX0_draw 69 = .ok (.iconst 1, 1) := by decide +kernel
theorem dX0_draw_70 : decode cX0_draw 70 = .ok (.ireturn, 1) := by decide +kernel
theorem dX0_clean_0 : decode cX0_clean 0 = .ok (.aload_n 1, 1) := by decide +kernel
theorem dX0_clean_1 : decode cX0_clean 1 = .ok (.getfield 104, 3) := by decide +kernel
theorem dX0_clean_4 : decode cX0_clean 4 = .ok (.iconst 1, 1) := by decide +kernel
theorem dX0_clean_5 : decode cX0_clean 5 = .ok (.if_icmp .eq 12, 3) := by decide +kernel
theorem dX0_clean_8 : decode cX0_clean 8 = .ok (.aload_n 1, 1) := by decide +kernel
theorem dX0_clean_9 : decode cX0_clean 9 = .ok (.getfield 104, 3) := by decide +kernel
theorem dX0_clean_12 : decode cX0_clean 12 = .ok (.bipush 14, 2) := by decide +kernel
theorem dX0_clean_14 : decode cX0_clean 14 = .ok (.if_icmp .ne 7, 3) := by decide +kernel
theorem dX0_clean_17 : decode cX0_clean 17 = .ok (.iconst 1, 1) := by decide +kernel
theorem dX0_clean_18 : decode cX0_clean 18 = .ok (.goto 4, 3) := by decide +kernel
theorem dX0_clean_21 : decode cX0_clean 21 = .ok (.iconst 0, 1) := by decide +kernel
theorem dX0_clean_22 : decode cX0_clean 22 = .ok (.istore_n 2, 1) := by decide +kernel
theorem dX0_clean_23 : decode cX0_clean 23 = .ok (.iload_n 2, 1) := by decide +kernel
theorem dX0_clean_24 : decode cX0_clean 24 = .ok (.ifCond .eq 20, 3) := by decide +kernel
theorem dX0_clean_27 : decode cX0_clean 27 = .ok (.aload_n 1, 1) := by decide +kernel
theorem dX0_clean_28 : decode cX0_clean 28 = .ok (.getfield 298, 3) := by decide +kernel
theorem dX0_clean_31 : decode cX0_clean 31 = .ok (.ifCond .ne 13, 3) := by decide +kernel
theorem dX0_clean_34 : decode cX0_clean 34 = .ok (.aload_n 1, 1) := by decide +kernel
theorem dX0_clean_35 : decode cX0_clean 35 = .ok (.getfield 146, 3) := by decide +kernel
theorem dX0_clean_38 : decode cX0_clean 38 = .ok (.invokevirtual 165, 3) := by decide +kernel
theorem dX0_clean_41 : decode cX0_clean 41 = .ok (.ifCond .ne 5, 3) := by decide +kernel
theorem dX0_clean_44 : decode cX0_clean 44 = .ok (.iconst 0, 1) := by decide +kernel
theorem dX0_clean_45 : decode cX0_clean 45 = .ok (.ireturn, 1) := by decide +kernel
theorem dX0_clean_46 : decode cX0_clean 46 = .ok (.aload_n 0, 1) := by decide +kernel
theorem dX0_clean_47 : decode cX0_clean 47 = .ok (.getfield 52, 3) := by decide +kernel
theorem dX0_clean_50 : decode cX0_clean 50 = .ok (.getfield 130, 3) := by decide +kernel
theorem dX0_clean_53 : decode cX0_clean 53 = .ok (.aload_n 1, 1) := by decide +kernel
theorem dX0_clean_54 : decode cX0_clean 54 = .ok (.getfield 146, 3) := by decide +kernel
theorem dX0_clean_57 : decode cX0_clean 57 = .ok (.invokevirtual 318, 3) := by decide +kernel
theorem dX0_clean_60 : decode cX0_clean 60 = .ok (.aload_n 1, 1) := by decide +kernel
theorem dX0_clean_61 : decode cX0_clean 61 = .ok (.getfield 146, 3) := by decide +kernel
theorem dX0_clean_64 : decode cX0_clean 64 = .ok (.invokevirtual 327, 3) := by decide +kernel
theorem dX0_clean_67 : decode cX0_clean 67 = .ok (.iconst 1, 1) := by decide +kernel
theorem dX0_clean_68 : decode cX0_clean 68 = .ok (.ireturn, 1) := by decide +kernel
theorem dX1_init_0 : decode cX1_init 0 = .ok (.aload_n 0, 1) := by decide +kernel
theorem dX1_init_1 : decode cX1_init 1 = .ok (.invokespecial 3, 3) := by decide +kernel
theorem dX1_init_4 : decode cX1_init 4 = .ok (.aload_n 0, 1) := by decide +kernel
theorem dX1_init_5 : decode cX1_init 5 = .ok (.new 9, 3) := by decide +kernel
theorem dX1_init_8 : decode cX1_init 8 = .ok (.dup, 1) := by decide +kernel
theorem dX1_init_9 : decode cX1_init 9 = .ok (.invokespecial 11, 3) := by decide +kernel
theorem dX1_init_12 : decode cX1_init 12 = .ok (.putfield 12, 3) := by decide +kernel
theorem dX1_init_15 : decode cX1_init 15 = .ok (.aload_n 0, 1) := by decide +kernel
theorem dX1_init_16 : decode cX1_init 16 = .ok (.new 9, 3) := by decide +kernel
theorem dX1_init_19 : decode cX1_init 19 = .ok (.dup, 1) := by decide +kernel
theorem dX1_init_20 : decode cX1_init 20 = .ok (.invokespecial 11, 3) := by decide +kernel
theorem dX1_init_23 : decode cX1_init 23 = .ok (.putfield 18, 3) := by decide +kernel
theorem dX1_init_26 : decode cX1_init 26 = .ok (.aload_n 0, 1) := by decide +kernel
theorem dX1_init_27 : decode cX1_init 27 = .ok (.new 9, 3) := by decide +kernel
theorem dX1_init_30 : decode cX1_init 30 = .ok (.dup, 1) := by decide +kernel
theorem dX1_init_31 : decode cX1_init 31 = .ok (.invokespecial 11, 3) := by decide +kernel
theorem dX1_init_34 : decode cX1_init 34 = .ok (.putfield 21, 3) := by decide +kernel
theorem dX1_init_37 : decode cX1_init 37 = .ok (.aload_n 0, 1) := by decide +kernel
theorem dX1_init_38 : decode cX1_init 38 = .ok (.new 9, 3) := by decide +kernel
theorem dX1_init_41 : decode cX1_init 41 = .ok (.dup, 1) := by decide +kernel
theorem dX1_init_42 : decode cX1_init 42 = .ok (.invokespecial 11, 3) := by decide +kernel
theorem dX1_init_45 : decode cX1_init 45 = .ok (.putfield 24, 3) := by decide +kernel
theorem dX1_init_48 : decode cX1_init 48 = .ok (.aload_n 0, 1) := by decide +kernel
theorem dX1_init_49 : decode cX1_init 49 = .ok (.new 9, 3) := by decide +kernel
theorem dX1_init_52 : decode cX1_init 52 = .ok (.dup, 1) := by decide +kernel
theorem dX1_init_53 : decode cX1_init 53 = .ok (.invokespecial 11, 3) := by decide +kernel
theorem dX1_init_56 : decode cX1_init 56 = .ok (.putfield 27, 3) := by decide +kernel
theorem dX1_init_59 : decode cX1_init 59 = .ok (.aload_n 0, 1) := by decide +kernel
theorem dX1_init_60 : decode cX1_init 60 = .ok (.new 9, 3) := by decide +kernel
theorem dX1_init_63 : decode cX1_init 63 = .ok (.dup, 1) := by decide +kernel
theorem dX1_init_64 : decode cX1_init 64 = .ok (.invokespecial 11, 3) := by decide +kernel
theorem dX1_init_67 : decode cX1_init 67 = .ok (.putfield 30, 3) := by decide +kernel
theorem dX1_init_70 : decode cX1_init 70 = .ok (.return_, 1) := by decide +kernel
theorem dX1_answer_0 : decode cX1_answer 0 = .ok (.iload_n 1, 1) := by decide +kernel
theorem dX1_answer_1 : decode cX1_answer 1 = .ok (.tableswitch 81 0 6 #[43, 48, 56, 61, 66, 71, 76], 43) := by decide +kernel
theorem dX1_answer_44 : decode cX1_answer 44 = .ok (.aload_n 0, 1) := by decide +kernel
theorem dX1_answer_45 : decode cX1_answer 45 = .ok (.getfield 33, 3) := by decide +kernel
theorem dX1_answer_48 : decode cX1_answer 48 = .ok (.ireturn, 1) := by decide +kernel
theorem dX1_answer_49 : decode cX1_answer 49 = .ok (.aload_n 0, 1) := by decide +kernel
theorem dX1_answer_50 : decode cX1_answer 50 = .ok (.getfield 27, 3) := by decide +kernel
theorem dX1_answer_53 : decode cX1_answer 53 = .ok (.getfield 37, 3) := by decide +kernel
theorem dX1_answer_56 : decode cX1_answer 56 = .ok (.ireturn, 1) := by decide +kernel
theorem dX1_answer_57 : decode cX1_answer 57 = .ok (.aload_n 0, 1) := by decide +kernel
theorem dX1_answer_58 : decode cX1_answer 58 = .ok (.getfield 40, 3) := by decide +kernel
theorem dX1_answer_61 : decode cX1_answer 61 = .ok (.ireturn, 1) := by decide +kernel
theorem dX1_answer_62 : decode cX1_answer 62 = .ok (.aload_n 0, 1) := by decide +kernel
theorem dX1_answer_63 : decode cX1_answer 63 = .ok (.getfield 43, 3) := by decide +kernel
theorem dX1_answer_66 : decode cX1_answer 66 = .ok (.ireturn, 1) := by decide +kernel
theorem dX1_answer_67 : decode cX1_answer 67 = .ok (.aload_n 0, 1) := by decide +kernel
theorem dX1_answer_68 : decode cX1_answer 68 = .ok (.getfield 46, 3) := by decide +kernel
theorem dX1_answer_71 : decode cX1_answer 71 = .ok (.ireturn, 1) := by decide +kernel
theorem dX1_answer_72 : decode cX1_answer 72 = .ok (.aload_n 0, 1) := by decide +kernel
theorem dX1_answer_73 : decode cX1_answer 73 = .ok (.getfield 49, 3) := by decide +kernel
theorem dX1_answer_76 : decode cX1_answer 76 = .ok (.ireturn, 1) := by decide +kernel
theorem dX1_answer_77 : decode cX1_answer 77 = .ok (.aload_n 0, 1) := by decide +kernel
theorem dX1_answer_78 : decode cX1_answer 78 = .ok (.getfield 52, 3) := by decide +kernel
theorem dX1_answer_81 : decode cX1_answer 81 = .ok (.ireturn, 1) := by decide +kernel
theorem dX1_answer_82 : decode cX1_answer 82 = .ok (.iconst (-1), 1) := by decide +kernel
theorem dX1_answer_83 : decode cX1_answer 83 = .ok (.ireturn, 1) := by decide +kernel
theorem dX1_copyFrom_0 : decode cX1_copyFrom 0 = .ok (.aload_n 0, 1) := by decide +kernel
theorem dX1_copyFrom_1 : decode cX1_copyFrom 1 = .ok (.getfield 12, 3) := by decide +kernel
theorem dX1_copyFrom_4 : decode cX1_copyFrom 4 = .ok (.aload_n 1, 1) := by decide +kernel
theorem dX1_copyFrom_5 : decode cX1_copyFrom 5 = .ok (.getfield 12, 3) := by decide +kernel
theorem dX1_copyFrom_8 : decode cX1_copyFrom 8 = .ok (.invokevirtual 55, 3) := by decide +kernel
theorem dX1_copyFrom_11 : decode cX1_copyFrom 11 = .ok (.aload_n 0, 1) := by decide +kernel
theorem dX1_copyFrom_12 : decode cX1_copyFrom 12 = .ok (.getfield 18, 3) := by decide +kernel
theorem dX1_copyFrom_15 : decode cX1_copyFrom 15 = .ok (.aload_n 1, 1) := by decide +kernel
theorem dX1_copyFrom_16 : decode cX1_copyFrom 16 = .ok (.getfield 18, 3) := by decide +kernel
theorem dX1_copyFrom_19 : decode cX1_copyFrom 19 = .ok (.invokevirtual 55, 3) := by decide +kernel
theorem dX1_copyFrom_22 : decode cX1_copyFrom 22 = .ok (.aload_n 0, 1) := by decide +kernel
theorem dX1_copyFrom_23 : decode cX1_copyFrom 23 = .ok (.getfield 21, 3) := by decide +kernel
theorem dX1_copyFrom_26 : decode cX1_copyFrom 26 = .ok (.aload_n 1, 1) := by decide +kernel
theorem dX1_copyFrom_27 : decode cX1_copyFrom 27 = .ok (.getfield 21, 3) := by decide +kernel
theorem dX1_copyFrom_30 : decode cX1_copyFrom 30 = .ok (.invokevirtual 55, 3) := by decide +kernel
theorem dX1_copyFrom_33 : decode cX1_copyFrom 33 = .ok (.aload_n 0, 1) := by decide +kernel
theorem dX1_copyFrom_34 : decode cX1_copyFrom 34 = .ok (.getfield 24, 3) := by decide +kernel
theorem dX1_copyFrom_37 : decode cX1_copyFrom 37 = .ok (.aload_n 1, 1) := by decide +kernel
theorem dX1_copyFrom_38 : decode cX1_copyFrom 38 = .ok (.getfield 24, 3) := by decide +kernel
theorem dX1_copyFrom_41 : decode cX1_copyFrom 41 = .ok (.invokevirtual 55, 3) := by decide +kernel
theorem dX1_copyFrom_44 : decode cX1_copyFrom 44 = .ok (.aload_n 0, 1) := by decide +kernel
theorem dX1_copyFrom_45 : decode cX1_copyFrom 45 = .ok (.getfield 27, 3) := by decide +kernel
theorem dX1_copyFrom_48 : decode cX1_copyFrom 48 = .ok (.aload_n 1, 1) := by decide +kernel
theorem dX1_copyFrom_49 : decode cX1_copyFrom 49 = .ok (.getfield 27, 3) := by decide +kernel
theorem dX1_copyFrom_52 : decode cX1_copyFrom 52 = .ok (.invokevirtual 55, 3) := by decide +kernel
theorem dX1_copyFrom_55 : decode cX1_copyFrom 55 = .ok (.aload_n 0, 1) := by decide +kernel
theorem dX1_copyFrom_56 : decode cX1_copyFrom 56 = .ok (.getfield 30, 3) := by decide +kernel
theorem dX1_copyFrom_59 : decode cX1_copyFrom 59 = .ok (.aload_n 1, 1) := by decide +kernel
theorem dX1_copyFrom_60 : decode cX1_copyFrom 60 = .ok (.getfield 30, 3) := by decide +kernel
theorem dX1_copyFrom_63 : decode cX1_copyFrom 63 = .ok (.invokevirtual 55, 3) := by decide +kernel
theorem dX1_copyFrom_66 : decode cX1_copyFrom 66 = .ok (.aload_n 0, 1) := by decide +kernel
theorem dX1_copyFrom_67 : decode cX1_copyFrom 67 = .ok (.aload_n 1, 1) := by decide +kernel
theorem dX1_copyFrom_68 : decode cX1_copyFrom 68 = .ok (.getfield 33, 3) := by decide +kernel
theorem dX1_copyFrom_71 : decode cX1_copyFrom 71 = .ok (.putfield 33, 3) := by decide +kernel
theorem dX1_copyFrom_74 : decode cX1_copyFrom 74 = .ok (.aload_n 0, 1) := by decide +kernel
theorem dX1_copyFrom_75 : decode cX1_copyFrom 75 = .ok (.aload_n 1, 1) := by decide +kernel
theorem dX1_copyFrom_76 : decode cX1_copyFrom 76 = .ok (.getfield 40, 3) := by decide +kernel
theorem dX1_copyFrom_79 : decode cX1_copyFrom 79 = .ok (.putfield 40, 3) := by decide +kernel
theorem dX1_copyFrom_82 : decode cX1_copyFrom 82 = .ok (.aload_n 0, 1) := by decide +kernel
theorem dX1_copyFrom_83 : decode cX1_copyFrom 83 = .ok (.aload_n 1, 1) := by decide +kernel
theorem dX1_copyFrom_84 : decode cX1_copyFrom 84 = .ok (.getfield 43, 3) := by decide +kernel
theorem dX1_copyFrom_87 : decode cX1_copyFrom 87 = .ok (.putfield 43, 3) := by decide +kernel
theorem dX1_copyFrom_90 : decode cX1_copyFrom 90 = .ok (.aload_n 0, 1) := by decide +kernel
theorem dX1_copyFrom_91 : decode cX1_copyFrom 91 = .ok (.aload_n 1, 1) := by decide +kernel
theorem dX1_copyFrom_92 : decode cX1_copyFrom 92 = .ok (.getfield 46, 3) := by decide +kernel
theorem dX1_copyFrom_95 : decode cX1_copyFrom 95 = .ok (.putfield 46, 3) := by decide +kernel
theorem dX1_copyFrom_98 : decode cX1_copyFrom 98 = .ok (.aload_n 0, 1) := by decide +kernel
theorem dX1_copyFrom_99 : decode cX1_copyFrom 99 = .ok (.aload_n 1, 1) := by decide +kernel
theorem dX1_copyFrom_100 : decode cX1_copyFrom 100 = .ok (.getfield 49, 3) := by decide +kernel
theorem dX1_copyFrom_103 : decode cX1_copyFrom 103 = .ok (.putfield 49, 3) := by decide +kernel
theorem dX1_copyFrom_106 : decode cX1_copyFrom 106 = .ok (.aload_n 0, 1) := by decide +kernel
theorem dX1_copyFrom_107 : decode cX1_copyFrom 107 = .ok (.aload_n 1, 1) := by decide +kernel
theorem dX1_copyFrom_108 : decode cX1_copyFrom 108 = .ok (.getfield 52, 3) := by decide +kernel
theorem dX1_copyFrom_111 : decode cX1_copyFrom 111 = .ok (.putfield 52, 3) := by decide +kernel
theorem dX1_copyFrom_114 : decode cX1_copyFrom 114 = .ok (.return_, 1) := by decide +kernel
theorem dX2_init_0 : decode cX2_init 0 = .ok (.aload_n 0, 1) := by decide +kernel
theorem dX2_init_1 : decode cX2_init 1 = .ok (.invokespecial 3, 3) := by decide +kernel
theorem dX2_init_4 : decode cX2_init 4 = .ok (.aload_n 0, 1) := by decide +kernel
theorem dX2_init_5 : decode cX2_init 5 = .ok (.bipush 8, 2) := by decide +kernel
theorem dX2_init_7 : decode cX2_init 7 = .ok (.newarray .int, 2) := by decide +kernel
theorem dX2_init_9 : decode cX2_init 9 = .ok (.putfield 9, 3) := by decide +kernel
theorem dX2_init_12 : decode cX2_init 12 = .ok (.aload_n 0, 1) := by decide +kernel
theorem dX2_init_13 : decode cX2_init 13 = .ok (.bipush 8, 2) := by decide +kernel
theorem dX2_init_15 : decode cX2_init 15 = .ok (.newarray .int, 2) := by decide +kernel
theorem dX2_init_17 : decode cX2_init 17 = .ok (.putfield 15, 3) := by decide +kernel
theorem dX2_init_20 : decode cX2_init 20 = .ok (.aload_n 0, 1) := by decide +kernel
theorem dX2_init_21 : decode cX2_init 21 = .ok (.iload_n 1, 1) := by decide +kernel
theorem dX2_init_22 : decode cX2_init 22 = .ok (.putfield 18, 3) := by decide +kernel
theorem dX2_init_25 : decode cX2_init 25 = .ok (.aload_n 0, 1) := by decide +kernel
theorem dX2_init_26 : decode cX2_init 26 = .ok (.iload_n 2, 1) := by decide +kernel
theorem dX2_init_27 : decode cX2_init 27 = .ok (.putfield 22, 3) := by decide +kernel
theorem dX2_init_30 : decode cX2_init 30 = .ok (.return_, 1) := by decide +kernel
theorem dX2_answer_0 : decode cX2_answer 0 = .ok (.iload_n 1, 1) := by decide +kernel
theorem dX2_answer_1 : decode cX2_answer 1 = .ok (.tableswitch 55 0 4 #[35, 55, 40, 45, 50], 35) := by decide +kernel
theorem dX2_answer_36 : decode cX2_answer 36 = .ok (.aload_n 0, 1) := by decide +kernel
theorem dX2_answer_37 : decode cX2_answer 37 = .ok (.getfield 22, 3) := by decide +kernel
theorem dX2_answer_40 : decode cX2_answer 40 = .ok (.ireturn, 1) := by decide +kernel
theorem dX2_answer_41 : decode cX2_answer 41 = .ok (.aload_n 0, 1) := by decide +kernel
theorem dX2_answer_42 : decode cX2_answer 42 = .ok (.getfield 25, 3) := by decide +kernel
theorem dX2_answer_45 : decode cX2_answer 45 = .ok (.ireturn, 1) := by decide +kernel
theorem dX2_answer_46 : decode cX2_answer 46 = .ok (.aload_n 0, 1) := by decide +kernel
theorem dX2_answer_47 : decode cX2_answer 47 = .ok (.invokevirtual 28, 3) := by decide +kernel
theorem dX2_answer_50 : decode cX2_answer 50 = .ok (.ireturn, 1) := by decide +kernel
theorem dX2_answer_51 : decode cX2_answer 51 = .ok (.aload_n 0, 1) := by decide +kernel
theorem dX2_answer_52 : decode cX2_answer 52 = .ok (.getfield 32, 3) := by decide +kernel
theorem dX2_answer_55 : decode cX2_answer 55 = .ok (.ireturn, 1) := by decide +kernel
theorem dX2_answer_56 : decode cX2_answer 56 = .ok (.iconst (-1), 1) := by decide +kernel
theorem dX2_answer_57 : decode cX2_answer 57 = .ok (.ireturn, 1) := by decide +kernel
theorem dX2_firstWhat_0 : decode cX2_firstWhat 0 = .ok (.aload_n 0, 1) := by decide +kernel
theorem dX2_firstWhat_1 : decode cX2_firstWhat 1 = .ok (.getfield 25, 3) := by decide +kernel
theorem dX2_firstWhat_4 : decode cX2_firstWhat 4 = .ok (.ifCond .le 12, 3) := by decide +kernel
theorem dX2_firstWhat_7 : decode cX2_firstWhat 7 = .ok (.aload_n 0, 1) := by decide +kernel
theorem dX2_firstWhat_8 : decode cX2_firstWhat 8 = .ok (.getfield 9, 3) := by decide +kernel
theorem dX2_firstWhat_11 : decode cX2_firstWhat 11 = .ok (.iconst 0, 1) := by decide +kernel
theorem dX2_firstWhat_12 : decode cX2_firstWhat 12 = .ok (.iaload, 1) := by decide +kernel
theorem dX2_firstWhat_13 : decode cX2_firstWhat 13 = .ok (.goto 5, 3) := by decide +kernel
theorem dX2_firstWhat_16 : decode cX2_firstWhat 16 = .ok (.bipush (-4), 2) := by decide +kernel
theorem dX2_firstWhat_18 : decode cX2_firstWhat 18 = .ok (.ireturn, 1) := by decide +kernel
theorem dX2_goesWhereItIs_0 : decode cX2_goesWhereItIs 0 = .ok (.aload_n 0, 1) := by decide +kernel
theorem dX2_goesWhereItIs_1 : decode cX2_goesWhereItIs 1 = .ok (.invokevirtual 28, 3) := by decide +kernel
theorem dX2_goesWhereItIs_4 : decode cX2_goesWhereItIs 4 = .ok (.ifCond .ne 20, 3) := by decide +kernel
theorem dX2_goesWhereItIs_7 : decode cX2_goesWhereItIs 7 = .ok (.aload_n 0, 1) := by decide +kernel
theorem dX2_goesWhereItIs_8 : decode cX2_goesWhereItIs 8 = .ok (.getfield 15, 3) := by decide +kernel
theorem dX2_goesWhereItIs_11 : decode cX2_goesWhereItIs 11 = .ok (.iconst 0, 1) := by decide +kernel
theorem dX2_goesWhereItIs_12 : decode cX2_goesWhereItIs 12 = .ok (.iaload, 1) := by decide +kernel
theorem dX2_goesWhereItIs_13 : decode cX2_goesWhereItIs 13 = .ok (.aload_n 0, 1) := by decide +kernel
theorem dX2_goesWhereItIs_14 : decode cX2_goesWhereItIs 14 = .ok (.getfield 22, 3) := by decide +kernel
theorem dX2_goesWhereItIs_17 : decode cX2_goesWhereItIs 17 = .ok (.if_icmp .ne 7, 3) := by decide +kernel
theorem dX2_goesWhereItIs_20 : decode cX2_goesWhereItIs 20 = .ok (.iconst 1, 1) := by decide +kernel
theorem dX2_goesWhereItIs_21 : decode cX2_goesWhereItIs 21 = .ok (.goto 4, 3) := by decide +kernel
theorem dX2_goesWhereItIs_24 : decode cX2_goesWhereItIs 24 = .ok (.iconst 0, 1) := by decide +kernel
theorem dX2_goesWhereItIs_25 : decode cX2_goesWhereItIs 25 = .ok (.ireturn, 1) := by decide +kernel
theorem dX2_nextPlace_0 : decode cX2_nextPlace 0 = .ok (.aload_n 0, 1) := by decide +kernel
theorem dX2_nextPlace_1 : decode cX2_nextPlace 1 = .ok (.getfield 15, 3) := by decide +kernel
theorem dX2_nextPlace_4 : decode cX2_nextPlace 4 = .ok (.iconst 0, 1) := by decide +kernel
theorem dX2_nextPlace_5 : decode cX2_nextPlace 5 = .ok (.iaload, 1) := by decide +kernel
theorem dX2_nextPlace_6 : decode cX2_nextPlace 6 = .ok (.aload_n 0, 1) := by decide +kernel
theorem dX2_nextPlace_7 : decode cX2_nextPlace 7 = .ok (.getfield 22, 3) := by decide +kernel
theorem dX2_nextPlace_10 : decode cX2_nextPlace 10 = .ok (.if_icmp .le 12, 3) := by decide +kernel
theorem dX2_nextPlace_13 : decode cX2_nextPlace 13 = .ok (.aload_n 0, 1) := by decide +kernel
theorem dX2_nextPlace_14 : decode cX2_nextPlace 14 = .ok (.getfield 22, 3) := by decide +kernel
theorem dX2_nextPlace_17 : decode cX2_nextPlace 17 = .ok (.iconst 1, 1) := by decide +kernel
theorem dX2_nextPlace_18 : decode cX2_nextPlace 18 = .ok (.iadd, 1) := by decide +kernel
theorem dX2_nextPlace_19 : decode cX2_nextPlace 19 = .ok (.goto 9, 3) := by decide +kernel
theorem dX2_nextPlace_22 : decode cX2_nextPlace 22 = .ok (.aload_n 0, 1) := by decide +kernel
theorem dX2_nextPlace_23 : decode cX2_nextPlace 23 = .ok (.getfield 22, 3) := by decide +kernel
theorem dX2_nextPlace_26 : decode cX2_nextPlace 26 = .ok (.iconst 1, 1) := by decide +kernel
theorem dX2_nextPlace_27 : decode cX2_nextPlace 27 = .ok (.isub, 1) := by decide +kernel
theorem dX2_nextPlace_28 : decode cX2_nextPlace 28 = .ok (.ireturn, 1) := by decide +kernel
theorem dX2_addOrder_0 : decode cX2_addOrder 0 = .ok (.aload_n 0, 1) := by decide +kernel
theorem dX2_addOrder_1 : decode cX2_addOrder 1 = .ok (.getfield 25, 3) := by decide +kernel
theorem dX2_addOrder_4 : decode cX2_addOrder 4 = .ok (.ifCond .lt 27, 3) := by decide +kernel
theorem dX2_addOrder_7 : decode cX2_addOrder 7 = .ok (.aload_n 0, 1) := by decide +kernel
theorem dX2_addOrder_8 : decode cX2_addOrder 8 = .ok (.getfield 25, 3) := by decide +kernel
theorem dX2_addOrder_11 : decode cX2_addOrder 11 = .ok (.aload_n 0, 1) := by decide +kernel
theorem dX2_addOrder_12 : decode cX2_addOrder 12 = .ok (.getfield 9, 3) := by decide +kernel
theorem dX2_addOrder_15 : decode cX2_addOrder 15 = .ok (.arraylength, 1) := by decide +kernel
theorem dX2_addOrder_16 : decode cX2_addOrder 16 = .ok (.if_icmp .ge 15, 3) := by decide +kernel
theorem dX2_addOrder_19 : decode cX2_addOrder 19 = .ok (.aload_n 0, 1) := by decide +kernel
theorem dX2_addOrder_20 : decode cX2_addOrder 20 = .ok (.getfield 25, 3) := by decide +kernel
theorem dX2_addOrder_23 : decode cX2_addOrder 23 = .ok (.aload_n 0, 1) := by decide +kernel
theorem dX2_addOrder_24 : decode cX2_addOrder 24 = .ok (.getfield 15, 3) := by decide +kernel
theorem dX2_addOrder_27 : decode cX2_addOrder 27 = .ok (.arraylength, 1) := by decide +kernel
theorem dX2_addOrder_28 : decode cX2_addOrder 28 = .ok (.if_icmp .lt 5, 3) := by decide +kernel
theorem dX2_addOrder_31 : decode cX2_addOrder 31 = .ok (.iconst 0, 1) := by decide +kernel
theorem dX2_addOrder_32 : decode cX2_addOrder 32 = .ok (.ireturn, 1) := by decide +kernel
theorem dX2_addOrder_33 : decode cX2_addOrder 33 = .ok (.aload_n 0, 1) := by decide +kernel
theorem dX2_addOrder_34 : decode cX2_addOrder 34 = .ok (.getfield 9, 3) := by decide +kernel
theorem dX2_addOrder_37 : decode cX2_addOrder 37 = .ok (.aload_n 0, 1) := by decide +kernel
theorem dX2_addOrder_38 : decode cX2_addOrder 38 = .ok (.getfield 25, 3) := by decide +kernel
theorem dX2_addOrder_41 : decode cX2_addOrder 41 = .ok (.iload_n 1, 1) := by decide +kernel
theorem dX2_addOrder_42 : decode cX2_addOrder 42 = .ok (.iastore, 1) := by decide +kernel
theorem dX2_addOrder_43 : decode cX2_addOrder 43 = .ok (.aload_n 0, 1) := by decide +kernel
theorem dX2_addOrder_44 : decode cX2_addOrder 44 = .ok (.getfield 15, 3) := by decide +kernel
theorem dX2_addOrder_47 : decode cX2_addOrder 47 = .ok (.aload_n 0, 1) := by decide +kernel
theorem dX2_addOrder_48 : decode cX2_addOrder 48 = .ok (.getfield 25, 3) := by decide +kernel
theorem dX2_addOrder_51 : decode cX2_addOrder 51 = .ok (.iload_n 2, 1) := by decide +kernel
theorem dX2_addOrder_52 : decode cX2_addOrder 52 = .ok (.iastore, 1) := by decide +kernel
theorem dX2_addOrder_53 : decode cX2_addOrder 53 = .ok (.aload_n 0, 1) := by decide +kernel
theorem dX2_addOrder_54 : decode cX2_addOrder 54 = .ok (.dup, 1) := by decide +kernel
theorem dX2_addOrder_55 : decode cX2_addOrder 55 = .ok (.getfield 25, 3) := by decide +kernel
theorem dX2_addOrder_58 : decode cX2_addOrder 58 = .ok (.iconst 1, 1) := by decide +kernel
theorem dX2_addOrder_59 : decode cX2_addOrder 59 = .ok (.iadd, 1) := by decide +kernel
theorem dX2_addOrder_60 : decode cX2_addOrder 60 = .ok (.putfield 25, 3) := by decide +kernel
theorem dX2_addOrder_63 : decode cX2_addOrder 63 = .ok (.iconst 1, 1) := by decide +kernel
theorem dX2_addOrder_64 : decode cX2_addOrder 64 = .ok (.ireturn, 1) := by decide +kernel
theorem dX2_removeFirst_0 : decode cX2_removeFirst 0 = .ok (.iconst 1, 1) := by decide +kernel
theorem dX2_removeFirst_1 : decode cX2_removeFirst 1 = .ok (.istore_n 1, 1) := by decide +kernel
theorem dX2_removeFirst_2 : decode cX2_removeFirst 2 = .ok (.iload_n 1, 1) := by decide +kernel
theorem dX2_removeFirst_3 : decode cX2_removeFirst 3 = .ok (.aload_n 0, 1) := by decide +kernel
theorem dX2_removeFirst_4 : decode cX2_removeFirst 4 = .ok (.getfield 25, 3) := by decide +kernel
theorem dX2_removeFirst_7 : decode cX2_removeFirst 7 = .ok (.if_icmp .ge 55, 3) := by decide +kernel
theorem dX2_removeFirst_10 : decode cX2_removeFirst 10 = .ok (.iload_n 1, 1) := by decide +kernel
theorem dX2_removeFirst_11 : decode cX2_removeFirst 11 = .ok (.aload_n 0, 1) := by decide +kernel
theorem dX2_removeFirst_12 : decode cX2_removeFirst 12 = .ok (.getfield 9, 3) := by decide +kernel
theorem dX2_removeFirst_15 : decode cX2_removeFirst 15 = .ok (.arraylength, 1) := by decide +kernel
theorem dX2_removeFirst_16 : decode cX2_removeFirst 16 = .ok (.if_icmp .ge 46, 3) := by decide +kernel
theorem dX2_removeFirst_19 : decode cX2_removeFirst 19 = .ok (.iload_n 1, 1) := by decide +kernel
theorem dX2_removeFirst_20 : decode cX2_removeFirst 20 = .ok (.aload_n 0, 1) := by decide +kernel
theorem dX2_removeFirst_21 : decode cX2_removeFirst 21 = .ok (.getfield 15, 3) := by decide +kernel
theorem dX2_removeFirst_24 : decode cX2_removeFirst 24 = .ok (.arraylength, 1) := by decide +kernel
theorem dX2_removeFirst_25 : decode cX2_removeFirst 25 = .ok (.if_icmp .ge 37, 3) := by decide +kernel
theorem dX2_removeFirst_28 : decode cX2_removeFirst 28 = .ok (.aload_n 0, 1) := by decide +kernel
theorem dX2_removeFirst_29 : decode cX2_removeFirst 29 = .ok (.getfield 9, 3) := by decide +kernel
theorem dX2_removeFirst_32 : decode cX2_removeFirst 32 = .ok (.iload_n 1, 1) := by decide +kernel
theorem dX2_removeFirst_33 : decode cX2_removeFirst 33 = .ok (.iconst 1, 1) := by decide +kernel
theorem dX2_removeFirst_34 : decode cX2_removeFirst 34 = .ok (.isub, 1) := by decide +kernel
theorem dX2_removeFirst_35 : decode cX2_removeFirst 35 = .ok (.aload_n 0, 1) := by decide +kernel
theorem dX2_removeFirst_36 : decode cX2_removeFirst 36 = .ok (.getfield 9, 3) := by decide +kernel
theorem dX2_removeFirst_39 : decode cX2_removeFirst 39 = .ok (.iload_n 1, 1) := by decide +kernel
theorem dX2_removeFirst_40 : decode cX2_removeFirst 40 = .ok (.iaload, 1) := by decide +kernel
theorem dX2_removeFirst_41 : decode cX2_removeFirst 41 = .ok (.iastore, 1) := by decide +kernel
theorem dX2_removeFirst_42 : decode cX2_removeFirst 42 = .ok (.aload_n 0, 1) := by decide +kernel
theorem dX2_removeFirst_43 : decode cX2_removeFirst 43 = .ok (.getfield 15, 3) := by decide +kernel
theorem dX2_removeFirst_46 : decode cX2_removeFirst 46 = .ok (.iload_n 1, 1) := by decide +kernel
theorem dX2_removeFirst_47 : decode cX2_removeFirst 47 = .ok (.iconst 1, 1) := by decide +kernel
theorem dX2_removeFirst_48 : decode cX2_removeFirst 48 = .ok (.isub, 1) := by decide +kernel
theorem dX2_removeFirst_49 : decode cX2_removeFirst 49 = .ok (.aload_n 0, 1) := by decide +kernel
theorem dX2_removeFirst_50 : decode cX2_removeFirst 50 = .ok (.getfield 15, 3) := by decide +kernel
theorem dX2_removeFirst_53 : decode cX2_removeFirst 53 = .ok (.iload_n 1, 1) := by decide +kernel
theorem dX2_removeFirst_54 : decode cX2_removeFirst 54 = .ok (.iaload, 1) := by decide +kernel
theorem dX2_removeFirst_55 : decode cX2_removeFirst 55 = .ok (.iastore, 1) := by decide +kernel
theorem dX2_removeFirst_56 : decode cX2_removeFirst 56 = .ok (.iinc 1 1, 3) := by decide +kernel
theorem dX2_removeFirst_59 : decode cX2_removeFirst 59 = .ok (.goto (-57), 3) := by decide +kernel
theorem dX2_removeFirst_62 : decode cX2_removeFirst 62 = .ok (.aload_n 0, 1) := by decide +kernel
theorem dX2_removeFirst_63 : decode cX2_removeFirst 63 = .ok (.iconst 0, 1) := by decide +kernel
theorem dX2_removeFirst_64 : decode cX2_removeFirst 64 = .ok (.aload_n 0, 1) := by decide +kernel
theorem dX2_removeFirst_65 : decode cX2_removeFirst 65 = .ok (.getfield 25, 3) := by decide +kernel
theorem dX2_removeFirst_68 : decode cX2_removeFirst 68 = .ok (.iconst 1, 1) := by decide +kernel
theorem dX2_removeFirst_69 : decode cX2_removeFirst 69 = .ok (.isub, 1) := by decide +kernel
theorem dX2_removeFirst_70 : decode cX2_removeFirst 70 = .ok (.invokestatic 35, 3) := by decide +kernel
theorem dX2_removeFirst_73 : decode cX2_removeFirst 73 = .ok (.putfield 25, 3) := by decide +kernel
theorem dX2_removeFirst_76 : decode cX2_removeFirst 76 = .ok (.return_, 1) := by decide +kernel
theorem dX2_copyFrom_0 : decode cX2_copyFrom 0 = .ok (.aload_n 1, 1) := by decide +kernel
theorem dX2_copyFrom_1 : decode cX2_copyFrom 1 = .ok (.getfield 9, 3) := by decide +kernel
theorem dX2_copyFrom_4 : decode cX2_copyFrom 4 = .ok (.aload_n 0, 1) := by decide +kernel
theorem dX2_copyFrom_5 : decode cX2_copyFrom 5 = .ok (.getfield 9, 3) := by decide +kernel
theorem dX2_copyFrom_8 : decode cX2_copyFrom 8 = .ok (.invokestatic 41, 3) := by decide +kernel
theorem dX2_copyFrom_11 : decode cX2_copyFrom 11 = .ok (.aload_n 1, 1) := by decide +kernel
theorem dX2_copyFrom_12 : decode cX2_copyFrom 12 = .ok (.getfield 15, 3) := by decide +kernel
theorem dX2_copyFrom_15 : decode cX2_copyFrom 15 = .ok (.aload_n 0, 1) := by decide +kernel
theorem dX2_copyFrom_16 : decode cX2_copyFrom 16 = .ok (.getfield 15, 3) := by decide +kernel
theorem dX2_copyFrom_19 : decode cX2_copyFrom 19 = .ok (.invokestatic 41, 3) := by decide +kernel
theorem dX2_copyFrom_22 : decode cX2_copyFrom 22 = .ok (.aload_n 0, 1) := by decide +kernel
theorem dX2_copyFrom_23 : decode cX2_copyFrom 23 = .ok (.aload_n 1, 1) := by decide +kernel
theorem dX2_copyFrom_24 : decode cX2_copyFrom 24 = .ok (.getfield 22, 3) := by decide +kernel
theorem dX2_copyFrom_27 : decode cX2_copyFrom 27 = .ok (.putfield 22, 3) := by decide +kernel
theorem dX2_copyFrom_30 : decode cX2_copyFrom 30 = .ok (.aload_n 0, 1) := by decide +kernel
theorem dX2_copyFrom_31 : decode cX2_copyFrom 31 = .ok (.aload_n 1, 1) := by decide +kernel
theorem dX2_copyFrom_32 : decode cX2_copyFrom 32 = .ok (.getfield 25, 3) := by decide +kernel
theorem dX2_copyFrom_35 : decode cX2_copyFrom 35 = .ok (.putfield 25, 3) := by decide +kernel
theorem dX2_copyFrom_38 : decode cX2_copyFrom 38 = .ok (.aload_n 0, 1) := by decide +kernel
theorem dX2_copyFrom_39 : decode cX2_copyFrom 39 = .ok (.aload_n 1, 1) := by decide +kernel
theorem dX2_copyFrom_40 : decode cX2_copyFrom 40 = .ok (.getfield 32, 3) := by decide +kernel
theorem dX2_copyFrom_43 : decode cX2_copyFrom 43 = .ok (.putfield 32, 3) := by decide +kernel
theorem dX2_copyFrom_46 : decode cX2_copyFrom 46 = .ok (.return_, 1) := by decide +kernel
theorem dX3_init_0 : decode cX3_init 0 = .ok (.aload_n 0, 1) := by decide +kernel
theorem dX3_init_1 : decode cX3_init 1 = .ok (.invokespecial 3, 3) := by decide +kernel
theorem dX3_init_4 : decode cX3_init 4 = .ok (.aload_n 0, 1) := by decide +kernel
theorem dX3_init_5 : decode cX3_init 5 = .ok (.new 9, 3) := by decide +kernel
theorem dX3_init_8 : decode cX3_init 8 = .ok (.dup, 1) := by decide +kernel
theorem dX3_init_9 : decode cX3_init 9 = .ok (.invokespecial 11, 3) := by decide +kernel
theorem dX3_init_12 : decode cX3_init 12 = .ok (.putfield 12, 3) := by decide +kernel
theorem dX3_init_15 : decode cX3_init 15 = .ok (.aload_n 0, 1) := by decide +kernel
theorem dX3_init_16 : decode cX3_init 16 = .ok (.new 9, 3) := by decide +kernel
theorem dX3_init_19 : decode cX3_init 19 = .ok (.dup, 1) := by decide +kernel
theorem dX3_init_20 : decode cX3_init 20 = .ok (.invokespecial 11, 3) := by decide +kernel
theorem dX3_init_23 : decode cX3_init 23 = .ok (.putfield 18, 3) := by decide +kernel
theorem dX3_init_26 : decode cX3_init 26 = .ok (.aload_n 0, 1) := by decide +kernel
theorem dX3_init_27 : decode cX3_init 27 = .ok (.bipush (-4), 2) := by decide +kernel
theorem dX3_init_29 : decode cX3_init 29 = .ok (.putfield 21, 3) := by decide +kernel
theorem dX3_init_32 : decode cX3_init 32 = .ok (.aload_n 0, 1) := by decide +kernel
theorem dX3_init_33 : decode cX3_init 33 = .ok (.iconst 0, 1) := by decide +kernel
theorem dX3_init_34 : decode cX3_init 34 = .ok (.putfield 25, 3) := by decide +kernel
theorem dX3_init_37 : decode cX3_init 37 = .ok (.aload_n 0, 1) := by decide +kernel
theorem dX3_init_38 : decode cX3_init 38 = .ok (.iload_n 1, 1) := by decide +kernel
theorem dX3_init_39 : decode cX3_init 39 = .ok (.putfield 28, 3) := by decide +kernel
theorem dX3_init_42 : decode cX3_init 42 = .ok (.return_, 1) := by decide +kernel
theorem dX3_answer_0 : decode cX3_answer 0 = .ok (.iload_n 1, 1) := by decide +kernel
theorem dX3_answer_1 : decode cX3_answer 1 = .ok (.tableswitch 101 0 11 #[63, 68, 73, 101, 78, 78, 78, 78, 89, 89, 89, 89], 63) := by decide +kernel
theorem dX3_answer_64 : decode cX3_answer 64 = .ok (.aload_n 0, 1) := by decide +kernel
theorem dX3_answer_65 : decode cX3_answer 65 = .ok (.getfield 28, 3) := by decide +kernel
theorem dX3_answer_68 : decode cX3_answer 68 = .ok (.ireturn, 1) := by decide +kernel
theorem dX3_answer_69 : decode cX3_answer 69 = .ok (.aload_n 0, 1) := by decide +kernel
theorem dX3_answer_70 : decode cX3_answer 70 = .ok (.getfield 21, 3) := by decide +kernel
theorem dX3_answer_73 : decode cX3_answer 73 = .ok (.ireturn, 1) := by decide +kernel
theorem dX3_answer_74 : decode cX3_answer 74 = .ok (.aload_n 0, 1) := by decide +kernel
theorem dX3_answer_75 : decode cX3_answer 75 = .ok (.getfield 25, 3) := by decide +kernel
theorem dX3_answer_78 : decode cX3_answer 78 = .ok (.ireturn, 1) := by decide +kernel
theorem dX3_answer_79 : decode cX3_answer 79 = .ok (.aload_n 0, 1) := by decide +kernel
theorem dX3_answer_80 : decode cX3_answer 80 = .ok (.getfield 12, 3) := by decide +kernel
theorem dX3_answer_83 : decode cX3_answer 83 = .ok (.iload_n 1, 1) := by decide +kernel
theorem dX3_answer_84 : decode cX3_answer 84 = .ok (.iconst 3, 1) := by decide +kernel
theorem dX3_answer_85 : decode cX3_answer 85 = .ok (.isub, 1) := by decide +kernel
theorem dX3_answer_86 : decode cX3_answer 86 = .ok (.invokevirtual 31, 3) := by decide +kernel
theorem dX3_answer_89 : decode cX3_answer 89 = .ok (.ireturn, 1) := by decide +kernel
theorem dX3_answer_90 : decode cX3_answer 90 = .ok (.aload_n 0, 1) := by decide +kernel
theorem dX3_answer_91 : decode cX3_answer 91 = .ok (.getfield 18, 3) := by decide +kernel
theorem dX3_answer_94 : decode cX3_answer 94 = .ok (.iload_n 1, 1) := by decide +kernel
theorem dX3_answer_95 : decode cX3_answer 95 = .ok (.bipush 7, 2) := by decide +kernel
theorem dX3_answer_97 : decode cX3_answer 97 = .ok (.isub, 1) := by decide +kernel
theorem dX3_answer_98 : decode cX3_answer 98 = .ok (.invokevirtual 31, 3) := by decide +kernel
theorem dX3_answer_101 : decode cX3_answer 101 = .ok (.ireturn, 1) := by decide +kernel
theorem dX3_answer_102 : decode cX3_answer 102 = .ok (.iconst (-1), 1) := by decide +kernel
theorem dX3_answer_103 : decode cX3_answer 103 = .ok (.ireturn, 1) := by decide +kernel
theorem dX3_room_0 : decode cX3_room 0 = .ok (.bipush 100, 2) := by decide +kernel
theorem dX3_room_2 : decode cX3_room 2 = .ok (.aload_n 0, 1) := by decide +kernel
theorem dX3_room_3 : decode cX3_room 3 = .ok (.getfield 18, 3) := by decide +kernel
theorem dX3_room_6 : decode cX3_room 6 = .ok (.invokevirtual 35, 3) := by decide +kernel
theorem dX3_room_9 : decode cX3_room 9 = .ok (.isub, 1) := by decide +kernel
theorem dX3_room_10 : decode cX3_room 10 = .ok (.aload_n 0, 1) := by decide +kernel
theorem dX3_room_11 : decode cX3_room 11 = .ok (.getfield 12, 3) := by decide +kernel
theorem dX3_room_14 : decode cX3_room 14 = .ok (.invokevirtual 35, 3) := by decide +kernel
theorem dX3_room_17 : decode cX3_room 17 = .ok (.isub, 1) := by decide +kernel
theorem dX3_room_18 : decode cX3_room 18 = .ok (.ireturn, 1) := by decide +kernel
theorem dX3_stuffThatFreezes_0 : decode cX3_stuffThatFreezes 0 = .ok (.iconst 2, 1) := by decide +kernel
theorem dX3_stuffThatFreezes_1 : decode cX3_stuffThatFreezes 1 = .ok (.aload_n 0, 1) := by decide +kernel
theorem dX3_stuffThatFreezes_2 : decode cX3_stuffThatFreezes 2 = .ok (.getfield 12, 3) := by decide +kernel
theorem dX3_stuffThatFreezes_5 : decode cX3_stuffThatFreezes 5 = .ok (.invokevirtual 35, 3) := by decide +kernel
theorem dX3_stuffThatFreezes_8 : decode cX3_stuffThatFreezes 8 = .ok (.invokestatic 39, 3) := by decide +kernel
theorem dX3_stuffThatFreezes_11 : decode cX3_stuffThatFreezes 11 = .ok (.bipush 20, 2) := by decide +kernel
theorem dX3_stuffThatFreezes_13 : decode cX3_stuffThatFreezes 13 = .ok (.aload_n 0, 1) := by decide +kernel
theorem dX3_stuffThatFreezes_14 : decode cX3_stuffThatFreezes 14 = .ok (.getfield 18, 3) := by decide +kernel
theorem dX3_stuffThatFreezes_17 : decode cX3_stuffThatFreezes 17 = .ok (.invokevirtual 35, 3) := by decide +kernel
theorem dX3_stuffThatFreezes_20 : decode cX3_stuffThatFreezes 20 = .ok (.isub, 1) := by decide +kernel
theorem dX3_stuffThatFreezes_21 : decode cX3_stuffThatFreezes 21 = .ok (.invokestatic 39, 3) := by decide +kernel
theorem dX3_stuffThatFreezes_24 : decode cX3_stuffThatFreezes 24 = .ok (.ireturn, 1) := by decide +kernel
theorem dX3_freeze_0 : decode cX3_freeze 0 = .ok (.iload_n 1, 1) := by decide +kernel
theorem dX3_freeze_1 : decode cX3_freeze 1 = .ok (.istore_n 2, 1) := by decide +kernel
theorem dX3_freeze_2 : decode cX3_freeze 2 = .ok (.iconst 1, 1) := by decide +kernel
theorem dX3_freeze_3 : decode cX3_freeze 3 = .ok (.istore_n 3, 1) := by decide +kernel
theorem dX3_freeze_4 : decode cX3_freeze 4 = .ok (.iload_n 3, 1) := by decide +kernel
theorem dX3_freeze_5 : decode cX3_freeze 5 = .ok (.iconst 4, 1) := by decide +kernel
theorem dX3_freeze_6 : decode cX3_freeze 6 = .ok (.if_icmp .gt 49, 3) := by decide +kernel
theorem dX3_freeze_9 : decode cX3_freeze 9 = .ok (.iload_n 2, 1) := by decide +kernel
theorem dX3_freeze_10 : decode cX3_freeze 10 = .ok (.aload_n 0, 1) := by decide +kernel
theorem dX3_freeze_11 : decode cX3_freeze 11 = .ok (.getfield 12, 3) := by decide +kernel
theorem dX3_freeze_14 : decode cX3_freeze 14 = .ok (.iload_n 3, 1) := by decide +kernel
theorem dX3_freeze_15 : decode cX3_freeze 15 = .ok (.invokevirtual 31, 3) := by decide +kernel
theorem dX3_freeze_18 : decode cX3_freeze 18 = .ok (.invokestatic 39, 3) := by decide +kernel
theorem dX3_freeze_21 : decode cX3_freeze 21 = .ok (.istore 4, 2) := by decide +kernel
theorem dX3_freeze_23 : decode cX3_freeze 23 = .ok (.aload_n 0, 1) := by decide +kernel
theorem dX3_freeze_24 : decode cX3_freeze 24 = .ok (.getfield 12, 3) := by decide +kernel
theorem dX3_freeze_27 : decode cX3_freeze 27 = .ok (.iload_n 3, 1) := by decide +kernel
theorem dX3_freeze_28 : decode cX3_freeze 28 = .ok (.iload 4, 2) := by decide +kernel
theorem dX3_freeze_30 : decode cX3_freeze 30 = .ok (.ineg, 1) := by decide +kernel
theorem dX3_freeze_31 : decode cX3_freeze 31 = .ok (.invokevirtual 45, 3) := by decide +kernel
theorem dX3_freeze_34 : decode cX3_freeze 34 = .ok (.aload_n 0, 1) := by decide +kernel
theorem dX3_freeze_35 : decode cX3_freeze 35 = .ok (.getfield 18, 3) := by decide +kernel
theorem dX3_freeze_38 : decode cX3_freeze 38 = .ok (.iload_n 3, 1) := by decide +kernel
theorem dX3_freeze_39 : decode cX3_freeze 39 = .ok (.iload 4, 2) := by decide +kernel
theorem dX3_freeze_41 : decode cX3_freeze 41 = .ok (.invokevirtual 45, 3) := by decide +kernel
theorem dX3_freeze_44 : decode cX3_freeze 44 = .ok (.iload_n 2, 1) := by decide +kernel
theorem dX3_freeze_45 : decode cX3_freeze 45 = .ok (.iload 4, 2) := by decide +kernel
theorem dX3_freeze_47 : decode cX3_freeze 47 = .ok (.isub, 1) := by decide +kernel
theorem dX3_freeze_48 : decode cX3_freeze 48 = .ok (.istore_n 2, 1) := by decide +kernel
theorem dX3_freeze_49 : decode cX3_freeze 49 = .ok (.iinc 3 1, 3) := by decide +kernel
theorem dX3_freeze_52 : decode cX3_freeze 52 = .ok (.goto (-48), 3) := by decide +kernel
theorem dX3_freeze_55 : decode cX3_freeze 55 = .ok (.return_, 1) := by decide +kernel
theorem dX3_empty_0 : decode cX3_empty 0 = .ok (.aload_n 0, 1) := by decide +kernel
theorem dX3_empty_1 : decode cX3_empty 1 = .ok (.getfield 12, 3) := by decide +kernel
theorem dX3_empty_4 : decode cX3_empty 4 = .ok (.invokevirtual 49, 3) := by decide +kernel
theorem dX3_empty_7 : decode cX3_empty 7 = .ok (.aload_n 0, 1) := by decide +kernel
theorem dX3_empty_8 : decode cX3_empty 8 = .ok (.iconst 0, 1) := by decide +kernel
theorem dX3_empty_9 : decode cX3_empty 9 = .ok (.putfield 25, 3) := by decide +kernel
theorem dX3_empty_12 : decode cX3_empty 12 = .ok (.return_, 1) := by decide +kernel
theorem dX3_copyFrom_0 : decode cX3_copyFrom 0 = .ok (.aload_n 0, 1) := by decide +kernel
theorem dX3_copyFrom_1 : decode cX3_copyFrom 1 = .ok (.getfield 12, 3) := by decide +kernel
theorem dX3_copyFrom_4 : decode cX3_copyFrom 4 = .ok (.aload_n 1, 1) := by decide +kernel
theorem dX3_copyFrom_5 : decode cX3_copyFrom 5 = .ok (.getfield 12, 3) := by decide +kernel
theorem dX3_copyFrom_8 : decode cX3_copyFrom 8 = .ok (.invokevirtual 52, 3) := by decide +kernel
theorem dX3_copyFrom_11 : decode cX3_copyFrom 11 = .ok (.aload_n 0, 1) := by decide +kernel
theorem dX3_copyFrom_12 : decode cX3_copyFrom 12 = .ok (.getfield 18, 3) := by decide +kernel
theorem dX3_copyFrom_15 : decode cX3_copyFrom 15 = .ok (.aload_n 1, 1) := by decide +kernel
theorem dX3_copyFrom_16 : decode cX3_copyFrom 16 = .ok (.getfield 18, 3) := by decide +kernel
theorem dX3_copyFrom_19 : decode cX3_copyFrom 19 = .ok (.invokevirtual 52, 3) := by decide +kernel
theorem dX3_copyFrom_22 : decode cX3_copyFrom 22 = .ok (.aload_n 0, 1) := by decide +kernel
theorem dX3_copyFrom_23 : decode cX3_copyFrom 23 = .ok (.aload_n 1, 1) := by decide +kernel
theorem dX3_copyFrom_24 : decode cX3_copyFrom 24 = .ok (.getfield 28, 3) := by decide +kernel
theorem dX3_copyFrom_27 : decode cX3_copyFrom 27 = .ok (.putfield 28, 3) := by decide +kernel
theorem dX3_copyFrom_30 : decode cX3_copyFrom 30 = .ok (.aload_n 0, 1) := by decide +kernel
theorem dX3_copyFrom_31 : decode cX3_copyFrom 31 = .ok (.aload_n 1, 1) := by decide +kernel
theorem dX3_copyFrom_32 : decode cX3_copyFrom 32 = .ok (.getfield 21, 3) := by decide +kernel
theorem dX3_copyFrom_35 : decode cX3_copyFrom 35 = .ok (.putfield 21, 3) := by decide +kernel
theorem dX3_copyFrom_38 : decode cX3_copyFrom 38 = .ok (.aload_n 0, 1) := by decide +kernel
theorem dX3_copyFrom_39 : decode cX3_copyFrom 39 = .ok (.aload_n 1, 1) := by decide +kernel
theorem dX3_copyFrom_40 : decode cX3_copyFrom 40 = .ok (.getfield 25, 3) := by decide +kernel
theorem dX3_copyFrom_43 : decode cX3_copyFrom 43 = .ok (.putfield 25, 3) := by decide +kernel
theorem dX3_copyFrom_46 : decode cX3_copyFrom 46 = .ok (.return_, 1) := by decide +kernel
theorem dX4_init_0 : decode cX4_init 0 = .ok (.aload_n 0, 1) := by decide +kernel
theorem dX4_init_1 : decode cX4_init 1 = .ok (.invokespecial 3, 3) := by decide +kernel
theorem dX4_init_4 : decode cX4_init 4 = .ok (.return_, 1) := by decide +kernel
theorem dX4_of_0 : decode cX4_of 0 = .ok (.iload_n 1, 1) := by decide +kernel
theorem dX4_of_1 : decode cX4_of 1 = .ok (.tableswitch 51 1 4 #[31, 36, 41, 46], 31) := by decide +kernel
theorem dX4_of_32 : decode cX4_of 32 = .ok (.aload_n 0, 1) := by decide +kernel
theorem dX4_of_33 : decode cX4_of 33 = .ok (.getfield 9, 3) := by decide +kernel
theorem dX4_of_36 : decode cX4_of 36 = .ok (.ireturn, 1) := by decide +kernel
theorem dX4_of_37 : decode cX4_of 37 = .ok (.aload_n 0, 1) := by decide +kernel
theorem dX4_of_38 : decode cX4_of 38 = .ok (.getfield 15, 3) := by decide +kernel
theorem dX4_of_41 : decode cX4_of 41 = .ok (.ireturn, 1) := by decide +kernel
theorem dX4_of_42 : decode cX4_of 42 = .ok (.aload_n 0, 1) := by decide +kernel
theorem dX4_of_43 : decode cX4_of 43 = .ok (.getfield 18, 3) := by decide +kernel
theorem dX4_of_46 : decode cX4_of 46 = .ok (.ireturn, 1) := by decide +kernel
theorem dX4_of_47 : decode cX4_of 47 = .ok (.aload_n 0, 1) := by decide +kernel
theorem dX4_of_48 : decode cX4_of 48 = .ok (.getfield 21, 3) := by decide +kernel
theorem dX4_of_51 : decode cX4_of 51 = .ok (.ireturn, 1) := by decide +kernel
theorem dX4_of_52 : decode cX4_of 52 = .ok (.iconst 0, 1) := by decide +kernel
theorem dX4_of_53 : decode cX4_of 53 = .ok (.ireturn, 1) := by decide +kernel
theorem dX4_add_0 : decode cX4_add 0 = .ok (.iload_n 1, 1) := by decide +kernel
theorem dX4_add_1 : decode cX4_add 1 = .ok (.tableswitch 83 1 4 #[31, 44, 57, 70], 31) := by decide +kernel
theorem dX4_add_32 : decode cX4_add 32 = .ok (.aload_n 0, 1) := by decide +kernel
theorem dX4_add_33 : decode cX4_add 33 = .ok (.dup, 1) := by decide +kernel
theorem dX4_add_34 : decode cX4_add 34 = .ok (.getfield 9, 3) := by decide +kernel
theorem dX4_add_37 : decode cX4_add 37 = .ok (.iload_n 2, 1) := by decide +kernel
theorem dX4_add_38 : decode cX4_add 38 = .ok (.iadd, 1) := by decide +kernel
theorem dX4_add_39 : decode cX4_add 39 = .ok (.putfield 9, 3) := by decide +kernel
theorem dX4_add_42 : decode cX4_add 42 = .ok (.goto 42, 3) := by decide +kernel
theorem dX4_add_45 : decode cX4_add 45 = .ok (.aload_n 0, 1) := by decide +kernel
theorem dX4_add_46 : decode cX4_add 46 = .ok (.dup, 1) := by decide +kernel
theorem dX4_add_47 : decode cX4_add 47 = .ok (.getfield 15, 3) := by decide +kernel
theorem dX4_add_50 : decode cX4_add 50 = .ok (.iload_n 2, 1) := by decide +kernel
theorem dX4_add_51 : decode cX4_add 51 = .ok (.iadd, 1) := by decide +kernel
theorem dX4_add_52 : decode cX4_add 52 = .ok (.putfield 15, 3) := by decide +kernel
theorem dX4_add_55 : decode cX4_add 55 = .ok (.goto 29, 3) := by decide +kernel
theorem dX4_add_58 : decode cX4_add 58 = .ok (.aload_n 0, 1) := by decide +kernel
theorem dX4_add_59 : decode cX4_add 59 = .ok (.dup, 1) := by decide +kernel
theorem dX4_add_60 : decode cX4_add 60 = .ok (.getfield 18, 3) := by decide +kernel
theorem dX4_add_63 : decode cX4_add 63 = .ok (.iload_n 2, 1) := by decide +kernel
theorem dX4_add_64 : decode cX4_add 64 = .ok (.iadd, 1) := by decide +kernel
theorem dX4_add_65 : decode cX4_add 65 = .ok (.putfield 18, 3) := by decide +kernel
theorem dX4_add_68 : decode cX4_add 68 = .ok (.goto 16, 3) := by decide +kernel
theorem dX4_add_71 : decode cX4_add 71 = .ok (.aload_n 0, 1) := by decide +kernel
theorem dX4_add_72 : decode cX4_add 72 = .ok (.dup, 1) := by decide +kernel
theorem dX4_add_73 : decode cX4_add 73 = .ok (.getfield 21, 3) := by decide +kernel
theorem dX4_add_76 : decode cX4_add 76 = .ok (.iload_n 2, 1) := by decide +kernel
theorem dX4_add_77 : decode cX4_add 77 = .ok (.iadd, 1) := by decide +kernel
theorem dX4_add_78 : decode cX4_add 78 = .ok (.putfield 21, 3) := by decide +kernel
theorem dX4_add_81 : decode cX4_add 81 = .ok (.goto 3, 3) := by decide +kernel
theorem dX4_add_84 : decode cX4_add 84 = .ok (.return_, 1) := by decide +kernel
theorem dX4_all_0 : decode cX4_all 0 = .ok (.aload_n 0, 1) := by decide +kernel
theorem dX4_all_1 : decode cX4_all 1 = .ok (.getfield 9, 3) := by decide +kernel
theorem dX4_all_4 : decode cX4_all 4 = .ok (.aload_n 0, 1) := by decide +kernel
theorem dX4_all_5 : decode cX4_all 5 = .ok (.getfield 15, 3) := by decide +kernel
theorem dX4_all_8 : decode cX4_all 8 = .ok (.iadd, 1) := by decide +kernel
theorem dX4_all_9 : decode cX4_all 9 = .ok (.aload_n 0, 1) := by decide +kernel
theorem dX4_all_10 : decode cX4_all 10 = .ok (.getfield 18, 3) := by decide +kernel
theorem dX4_all_13 : decode cX4_all 13 = .ok (.iadd, 1) := by decide +kernel
theorem dX4_all_14 : decode cX4_all 14 = .ok (.aload_n 0, 1) := by decide +kernel
theorem dX4_all_15 : decode cX4_all 15 = .ok (.getfield 21, 3) := by decide +kernel
theorem dX4_all_18 : decode cX4_all 18 = .ok (.iadd, 1) := by decide +kernel
theorem dX4_all_19 : decode cX4_all 19 = .ok (.ireturn, 1) := by decide +kernel
theorem dX4_addAll_0 : decode cX4_addAll 0 = .ok (.aload_n 0, 1) := by decide +kernel
theorem dX4_addAll_1 : decode cX4_addAll 1 = .ok (.dup, 1) := by decide +kernel
theorem dX4_addAll_2 : decode cX4_addAll 2 = .ok (.getfield 9, 3) := by decide +kernel
theorem dX4_addAll_5 : decode cX4_addAll 5 = .ok (.aload_n 1, 1) := by decide +kernel
theorem dX4_addAll_6 : decode cX4_addAll 6 = .ok (.getfield 9, 3) := by decide +kernel
theorem dX4_addAll_9 : decode cX4_addAll 9 = .ok (.iadd, 1) := by decide +kernel
theorem dX4_addAll_10 : decode cX4_addAll 10 = .ok (.putfield 9, 3) := by decide +kernel
theorem dX4_addAll_13 : decode cX4_addAll 13 = .ok (.aload_n 0, 1) := by decide +kernel
theorem dX4_addAll_14 : decode cX4_addAll 14 = .ok (.dup, 1) := by decide +kernel
theorem dX4_addAll_15 : decode cX4_addAll 15 = .ok (.getfield 15, 3) := by decide +kernel
theorem dX4_addAll_18 : decode cX4_addAll 18 = .ok (.aload_n 1, 1) := by decide +kernel
theorem dX4_addAll_19 : decode cX4_addAll 19 = .ok (.getfield 15, 3) := by decide +kernel
theorem dX4_addAll_22 : decode cX4_addAll 22 = .ok (.iadd, 1) := by decide +kernel
theorem dX4_addAll_23 : decode cX4_addAll 23 = .ok (.putfield 15, 3) := by decide +kernel
theorem dX4_addAll_26 : decode cX4_addAll 26 = .ok (.aload_n 0, 1) := by decide +kernel
theorem dX4_addAll_27 : decode cX4_addAll 27 = .ok (.dup, 1) := by decide +kernel
theorem dX4_addAll_28 : decode cX4_addAll 28 = .ok (.getfield 18, 3) := by decide +kernel
theorem dX4_addAll_31 : decode cX4_addAll 31 = .ok (.aload_n 1, 1) := by decide +kernel
theorem dX4_addAll_32 : decode cX4_addAll 32 = .ok (.getfield 18, 3) := by decide +kernel
theorem dX4_addAll_35 : decode cX4_addAll 35 = .ok (.iadd, 1) := by decide +kernel
theorem dX4_addAll_36 : decode cX4_addAll 36 = .ok (.putfield 18, 3) := by decide +kernel
theorem dX4_addAll_39 : decode cX4_addAll 39 = .ok (.aload_n 0, 1) := by decide +kernel
theorem dX4_addAll_40 : decode cX4_addAll 40 = .ok (.dup, 1) := by decide +kernel
theorem dX4_addAll_41 : decode cX4_addAll 41 = .ok (.getfield 21, 3) := by decide +kernel
theorem dX4_addAll_44 : decode cX4_addAll 44 = .ok (.aload_n 1, 1) := by decide +kernel
theorem dX4_addAll_45 : decode cX4_addAll 45 = .ok (.getfield 21, 3) := by decide +kernel
theorem dX4_addAll_48 : decode cX4_addAll 48 = .ok (.iadd, 1) := by decide +kernel
theorem dX4_addAll_49 : decode cX4_addAll 49 = .ok (.putfield 21, 3) := by decide +kernel
theorem dX4_addAll_52 : decode cX4_addAll 52 = .ok (.return_, 1) := by decide +kernel
theorem dX4_clear_0 : decode cX4_clear 0 = .ok (.aload_n 0, 1) := by decide +kernel
theorem dX4_clear_1 : decode cX4_clear 1 = .ok (.iconst 0, 1) := by decide +kernel
theorem dX4_clear_2 : decode cX4_clear 2 = .ok (.putfield 9, 3) := by decide +kernel
theorem dX4_clear_5 : decode cX4_clear 5 = .ok (.aload_n 0, 1) := by decide +kernel
theorem dX4_clear_6 : decode cX4_clear 6 = .ok (.iconst 0, 1) := by decide +kernel
theorem dX4_clear_7 : decode cX4_clear 7 = .ok (.putfield 15, 3) := by decide +kernel
theorem dX4_clear_10 : decode cX4_clear 10 = .ok (.aload_n 0, 1) := by decide +kernel
theorem dX4_clear_11 : decode cX4_clear 11 = .ok (.iconst 0, 1) := by decide +kernel
theorem dX4_clear_12 : decode cX4_clear 12 = .ok (.putfield 18, 3) := by decide +kernel
theorem dX4_clear_15 : decode cX4_clear 15 = .ok (.aload_n 0, 1) := by decide +kernel
theorem dX4_clear_16 : decode cX4_clear 16 = .ok (.iconst 0, 1) := by decide +kernel
theorem dX4_clear_17 : decode cX4_clear 17 = .ok (.putfield 21, 3) := by decide +kernel
theorem dX4_clear_20 : decode cX4_clear 20 = .ok (.return_, 1) := by decide +kernel
theorem dX4_copyFrom_0 : decode cX4_copyFrom 0 = .ok (.aload_n 0, 1) := by decide +kernel
theorem dX4_copyFrom_1 : decode cX4_copyFrom 1 = .ok (.invokevirtual 24, 3) := by decide +kernel
theorem dX4_copyFrom_4 : decode cX4_copyFrom 4 = .ok (.aload_n 0, 1) := by decide +kernel
theorem dX4_copyFrom_5 : decode cX4_copyFrom 5 = .ok (.aload_n 1, 1) := by decide +kernel
theorem dX4_copyFrom_6 : decode cX4_copyFrom 6 = .ok (.invokevirtual 27, 3) := by decide +kernel
theorem dX4_copyFrom_9 : decode cX4_copyFrom 9 = .ok (.return_, 1) := by decide +kernel
theorem dX5_init_0 : decode cX5_init 0 = .ok (.aload_n 0, 1) := by decide +kernel
theorem dX5_init_1 : decode cX5_init 1 = .ok (.invokespecial 3, 3) := by decide +kernel
theorem dX5_init_4 : decode cX5_init 4 = .ok (.aload_n 0, 1) := by decide +kernel
theorem dX5_init_5 : decode cX5_init 5 = .ok (.new 9, 3) := by decide +kernel
theorem dX5_init_8 : decode cX5_init 8 = .ok (.dup, 1) := by decide +kernel
theorem dX5_init_9 : decode cX5_init 9 = .ok (.invokespecial 11, 3) := by decide +kernel
theorem dX5_init_12 : decode cX5_init 12 = .ok (.putfield 12, 3) := by decide +kernel
theorem dX5_init_15 : decode cX5_init 15 = .ok (.aload_n 0, 1) := by decide +kernel
theorem dX5_init_16 : decode cX5_init 16 = .ok (.sipush 1150, 3) := by decide +kernel
theorem dX5_init_19 : decode cX5_init 19 = .ok (.putfield 18, 3) := by decide +kernel
theorem dX5_init_22 : decode cX5_init 22 = .ok (.aload_n 0, 1) := by decide +kernel
theorem dX5_init_23 : decode cX5_init 23 = .ok (.iload_n 1, 1) := by decide +kernel
theorem dX5_init_24 : decode cX5_init 24 = .ok (.putfield 22, 3) := by decide +kernel
theorem dX5_init_27 : decode cX5_init 27 = .ok (.return_, 1) := by decide +kernel
theorem dX5_answer_0 : decode cX5_answer 0 = .ok (.iload_n 1, 1) := by decide +kernel
theorem dX5_answer_1 : decode cX5_answer 1 = .ok (.tableswitch 81 0 7 #[47, 52, 60, 60, 60, 60, 71, 76], 47) := by decide +kernel
theorem dX5_answer_48 : decode cX5_answer 48 = .ok (.aload_n 0, 1) := by decide +kernel
theorem dX5_answer_49 : decode cX5_answer 49 = .ok (.getfield 18, 3) := by decide +kernel
theorem dX5_answer_52 : decode cX5_answer 52 = .ok (.ireturn, 1) := by decide +kernel
theorem dX5_answer_53 : decode cX5_answer 53 = .ok (.aload_n 0, 1) := by decide +kernel
theorem dX5_answer_54 : decode cX5_answer 54 = .ok (.getfield 25, 3) := by decide +kernel
theorem dX5_answer_57 : decode cX5_answer 57 = .ok (.invokestatic 29, 3) := by decide +kernel
theorem dX5_answer_60 : decode cX5_answer 60 = .ok (.ireturn, 1) := by decide +kernel
theorem dX5_answer_61 : decode cX5_answer 61 = .ok (.aload_n 0, 1) := by decide +kernel
theorem dX5_answer_62 : decode cX5_answer 62 = .ok (.getfield 12, 3) := by decide +kernel
theorem dX5_answer_65 : decode cX5_answer 65 = .ok (.iload_n 1, 1) := by decide +kernel
theorem dX5_answer_66 : decode cX5_answer 66 = .ok (.iconst 1, 1) := by decide +kernel
theorem dX5_answer_67 : decode cX5_answer 67 = .ok (.isub, 1) := by decide +kernel
theorem dX5_answer_68 : decode cX5_answer 68 = .ok (.invokevirtual 33, 3) := by decide +kernel
theorem dX5_answer_71 : decode cX5_answer 71 = .ok (.ireturn, 1) := by decide +kernel
theorem dX5_answer_72 : decode cX5_answer 72 = .ok (.aload_n 0, 1) := by decide +kernel
theorem dX5_answer_73 : decode cX5_answer 73 = .ok (.getfield 37, 3) := by decide +kernel
theorem dX5_answer_76 : decode cX5_answer 76 = .ok (.ireturn, 1) := by decide +kernel
theorem dX5_answer_77 : decode cX5_answer 77 = .ok (.aload_n 0, 1) := by decide +kernel
theorem dX5_answer_78 : decode cX5_answer 78 = .ok (.getfield 40, 3) := by decide +kernel
theorem dX5_answer_81 : decode cX5_answer 81 = .ok (.ireturn, 1) := by decide +kernel
theorem dX5_answer_82 : decode cX5_answer 82 = .ok (.iconst (-1), 1) := by decide +kernel
theorem dX5_answer_83 : decode cX5_answer 83 = .ok (.ireturn, 1) := by decide +kernel
theorem dX5_mixHeat_0 : decode cX5_mixHeat 0 = .ok (.aload_n 0, 1) := by decide +kernel
theorem dX5_mixHeat_1 : decode cX5_mixHeat 1 = .ok (.getfield 12, 3) := by decide +kernel
theorem dX5_mixHeat_4 : decode cX5_mixHeat 4 = .ok (.invokevirtual 43, 3) := by decide +kernel
theorem dX5_mixHeat_7 : decode cX5_mixHeat 7 = .ok (.istore_n 3, 1) := by decide +kernel
theorem dX5_mixHeat_8 : decode cX5_mixHeat 8 = .ok (.iload_n 3, 1) := by decide +kernel
theorem dX5_mixHeat_9 : decode cX5_mixHeat 9 = .ok (.iload_n 2, 1) := by decide +kernel
theorem dX5_mixHeat_10 : decode cX5_mixHeat 10 = .ok (.iadd, 1) := by decide +kernel
theorem dX5_mixHeat_11 : decode cX5_mixHeat 11 = .ok (.istore 4, 2) := by decide +kernel
theorem dX5_mixHeat_13 : decode cX5_mixHeat 13 = .ok (.iload_n 2, 1) := by decide +kernel
theorem dX5_mixHeat_14 : decode cX5_mixHeat 14 = .ok (.ifCond .le 25, 3) := by decide +kernel
theorem dX5_mixHeat_17 : decode cX5_mixHeat 17 = .ok (.iload 4, 2) := by decide +kernel
theorem dX5_mixHeat_19 : decode cX5_mixHeat 19 = .ok (.ifCond .le 20, 3) := by decide +kernel
theorem dX5_mixHeat_22 : decode cX5_mixHeat 22 = .ok (.aload_n 0, 1) := by decide +kernel
theorem dX5_mixHeat_23 : decode cX5_mixHeat 23 = .ok (.aload_n 0, 1) := by decide +kernel
theorem dX5_mixHeat_24 : decode cX5_mixHeat 24 = .ok (.getfield 18, 3) := by decide +kernel
theorem dX5_mixHeat_27 : decode cX5_mixHeat 27 = .ok (.iload_n 3, 1) := by decide +kernel
theorem dX5_mixHeat_28 : decode cX5_mixHeat 28 = .ok (.imul, 1) := by decide +kernel
theorem dX5_mixHeat_29 : decode cX5_mixHeat 29 = .ok (.iload_n 1, 1) := by decide +kernel
theorem dX5_mixHeat_30 : decode cX5_mixHeat 30 = .ok (.iload_n 2, 1) := by decide +kernel
theorem dX5_mixHeat_31 : decode cX5_mixHeat 31 = .ok (.imul, 1) := by decide +kernel
theorem dX5_mixHeat_32 : decode cX5_mixHeat 32 = .ok (.iadd, 1) := by decide +kernel
theorem dX5_mixHeat_33 : decode cX5_mixHeat 33 = .ok (.iload 4, 2) := by decide +kernel
theorem dX5_mixHeat_35 : decode cX5_mixHeat 35 = .ok (.idiv, 1) := by decide +kernel
theorem dX5_mixHeat_36 : decode cX5_mixHeat 36 = .ok (.putfield 18, 3) := by decide +kernel
theorem dX5_mixHeat_39 : decode cX5_mixHeat 39 = .ok (.return_, 1) := by decide +kernel
theorem dX5_isTooColdOrTooHot_0 : decode cX5_isTooColdOrTooHot 0 = .ok (.sipush 1000, 3) := by decide +kernel
theorem dX5_isTooColdOrTooHot_3 : decode cX5_isTooColdOrTooHot 3 = .ok (.aload_n 0, 1) := by decide +kernel
theorem dX5_isTooColdOrTooHot_4 : decode cX5_isTooColdOrTooHot 4 = .ok (.getfield 18, 3) := by decide +kernel
theorem dX5_isTooColdOrTooHot_7 : decode cX5_isTooColdOrTooHot 7 = .ok (.sipush 1300, 3) := by decide +kernel
theorem dX5_isTooColdOrTooHot_10 : decode cX5_isTooColdOrTooHot 10 = .ok (.invokestatic 47, 3) := by decide +kernel
theorem dX5_isTooColdOrTooHot_13 : decode cX5_isTooColdOrTooHot 13 = .ok (.ifCond .ne 7, 3) := by decide +kernel
theorem dX5_isTooColdOrTooHot_16 : decode cX5_isTooColdOrTooHot 16 = .ok (.iconst 1, 1) := by decide +kernel
theorem dX5_isTooColdOrTooHot_17 : decode cX5_isTooColdOrTooHot 17 = .ok (.goto 4, 3) := by decide +kernel
theorem dX5_isTooColdOrTooHot_20 : decode cX5_isTooColdOrTooHot 20 = .ok (.iconst 0, 1) := by decide +kernel
theorem dX5_isTooColdOrTooHot_21 : decode cX5_isTooColdOrTooHot 21 = .ok (.ireturn, 1) := by decide +kernel
theorem dX5_holdsCopperAlone_0 : decode cX5_holdsCopperAlone 0 = .ok (.aload_n 0, 1) := by decide +kernel
theorem dX5_holdsCopperAlone_1 : decode cX5_holdsCopperAlone 1 = .ok (.getfield 12, 3) := by decide +kernel
theorem dX5_holdsCopperAlone_4 : decode cX5_holdsCopperAlone 4 = .ok (.getfield 51, 3) := by decide +kernel
theorem dX5_holdsCopperAlone_7 : decode cX5_holdsCopperAlone 7 = .ok (.ifCond .le 24, 3) := by decide +kernel
theorem dX5_holdsCopperAlone_10 : decode cX5_holdsCopperAlone 10 = .ok (.aload_n 0, 1) := by decide +kernel
theorem dX5_holdsCopperAlone_11 : decode cX5_holdsCopperAlone 11 = .ok (.getfield 12, 3) := by decide +kernel
theorem dX5_holdsCopperAlone_14 : decode cX5_holdsCopperAlone 14 = .ok (.getfield 51, 3) := by decide +kernel
theorem dX5_holdsCopperAlone_17 : decode cX5_holdsCopperAlone 17 = .ok (.aload_n 0, 1) := by decide +kernel
theorem dX5_holdsCopperAlone_18 : decode cX5_holdsCopperAlone 18 = .ok (.getfield 12, 3) := by decide +kernel
theorem dX5_holdsCopperAlone_21 : decode cX5_holdsCopperAlone 21 = .ok (.invokevirtual 43, 3) := by decide +kernel
theorem dX5_holdsCopperAlone_24 : decode cX5_holdsCopperAlone 24 = .ok (.if_icmp .ne 7, 3) := by decide +kernel
theorem dX5_holdsCopperAlone_27 : decode cX5_holdsCopperAlone 27 = .ok (.iconst 1, 1) := by decide +kernel
theorem dX5_holdsCopperAlone_28 : decode cX5_holdsCopperAlone 28 = .ok (.goto 4, 3) := by decide +kernel
theorem dX5_holdsCopperAlone_31 : decode cX5_holdsCopperAlone 31 = .ok (.iconst 0, 1) := by decide +kernel
theorem dX5_holdsCopperAlone_32 : decode cX5_holdsCopperAlone 32 = .ok (.ireturn, 1) := by decide +kernel
theorem dX5_cool_0 : decode cX5_cool 0 = .ok (.aload_n 0, 1) := by decide +kernel
theorem dX5_cool_1 : decode cX5_cool 1 = .ok (.getfield 12, 3) := by decide +kernel
theorem dX5_cool_4 : decode cX5_cool 4 = .ok (.invokevirtual 43, 3) := by decide +kernel
theorem dX5_cool_7 : decode cX5_cool 7 = .ok (.ifCond .le 18, 3) := by decide +kernel
theorem dX5_cool_10 : decode cX5_cool 10 = .ok (.aload_n 0, 1) := by decide +kernel
theorem dX5_cool_11 : decode cX5_cool 11 = .ok (.iconst 0, 1) := by decide +kernel
theorem dX5_cool_12 : decode cX5_cool 12 = .ok (.aload_n 0, 1) := by decide +kernel
theorem dX5_cool_13 : decode cX5_cool 13 = .ok (.getfield 18, 3) := by decide +kernel
theorem dX5_cool_16 : decode cX5_cool 16 = .ok (.bipush 8, 2) := by decide +kernel
theorem dX5_cool_18 : decode cX5_cool 18 = .ok (.isub, 1) := by decide +kernel
theorem dX5_cool_19 : decode cX5_cool 19 = .ok (.invokestatic 54, 3) := by decide +kernel
theorem dX5_cool_22 : decode cX5_cool 22 = .ok (.putfield 18, 3) := by decide +kernel
theorem dX5_cool_25 : decode cX5_cool 25 = .ok (.return_, 1) := by decide +kernel
theorem dX5_copyFrom_0 : decode cX5_copyFrom 0 = .ok (.aload_n 0, 1) := by decide +kernel
theorem dX5_copyFrom_1 : decode cX5_copyFrom 1 = .ok (.getfield 12, 3) := by decide +kernel
theorem dX5_copyFrom_4 : decode cX5_copyFrom 4 = .ok (.aload_n 1, 1) := by decide +kernel
theorem dX5_copyFrom_5 : decode cX5_copyFrom 5 = .ok (.getfield 12, 3) := by decide +kernel
theorem dX5_copyFrom_8 : decode cX5_copyFrom 8 = .ok (.invokevirtual 60, 3) := by decide +kernel
theorem dX5_copyFrom_11 : decode cX5_copyFrom 11 = .ok (.aload_n 0, 1) := by decide +kernel
theorem dX5_copyFrom_12 : decode cX5_copyFrom 12 = .ok (.aload_n 1, 1) := by decide +kernel
theorem dX5_copyFrom_13 : decode cX5_copyFrom 13 = .ok (.getfield 18, 3) := by decide +kernel
theorem dX5_copyFrom_16 : decode cX5_copyFrom 16 = .ok (.putfield 18, 3) := by decide +kernel
theorem dX5_copyFrom_19 : decode cX5_copyFrom 19 = .ok (.aload_n 0, 1) := by decide +kernel
theorem dX5_copyFrom_20 : decode cX5_copyFrom 20 = .ok (.aload_n 1, 1) := by decide +kernel
theorem dX5_copyFrom_21 : decode cX5_copyFrom 21 = .ok (.getfield 37, 3) := by decide +kernel
theorem dX5_copyFrom_24 : decode cX5_copyFrom 24 = .ok (.putfield 37, 3) := by decide +kernel
theorem dX5_copyFrom_27 : decode cX5_copyFrom 27 = .ok (.aload_n 0, 1) := by decide +kernel
theorem dX5_copyFrom_28 : decode cX5_copyFrom 28 = .ok (.aload_n 1, 1) := by decide +kernel
theorem dX5_copyFrom_29 : decode cX5_copyFrom 29 = .ok (.getfield 40, 3) := by decide +kernel
theorem dX5_copyFrom_32 : decode cX5_copyFrom 32 = .ok (.putfield 40, 3) := by decide +kernel
theorem dX5_copyFrom_35 : decode cX5_copyFrom 35 = .ok (.aload_n 0, 1) := by decide +kernel
theorem dX5_copyFrom_36 : decode cX5_copyFrom 36 = .ok (.aload_n 1, 1) := by decide +kernel
theorem dX5_copyFrom_37 : decode cX5_copyFrom 37 = .ok (.getfield 25, 3) := by decide +kernel
theorem dX5_copyFrom_40 : decode cX5_copyFrom 40 = .ok (.putfield 25, 3) := by decide +kernel
theorem dX5_copyFrom_43 : decode cX5_copyFrom 43 = .ok (.return_, 1) := by decide +kernel
theorem dX6_init_0 : decode cX6_init 0 = .ok (.aload_n 0, 1) := by decide +kernel
theorem dX6_init_1 : decode cX6_init 1 = .ok (.invokespecial 1, 3) := by decide +kernel
theorem dX6_init_4 : decode cX6_init 4 = .ok (.aload_n 0, 1) := by decide +kernel
theorem dX6_init_5 : decode cX6_init 5 = .ok (.new 7, 3) := by decide +kernel
theorem dX6_init_8 : decode cX6_init 8 = .ok (.dup, 1) := by decide +kernel
theorem dX6_init_9 : decode cX6_init 9 = .ok (.invokespecial 9, 3) := by decide +kernel
theorem dX6_init_12 : decode cX6_init 12 = .ok (.putfield 10, 3) := by decide +kernel
theorem dX6_init_15 : decode cX6_init 15 = .ok (.aload_n 0, 1) := by decide +kernel
theorem dX6_init_16 : decode cX6_init 16 = .ok (.bipush 8, 2) := by decide +kernel
theorem dX6_init_18 : decode cX6_init 18 = .ok (.anewarray 7, 3) := by decide +kernel
theorem dX6_init_21 : decode cX6_init 21 = .ok (.putfield 16, 3) := by decide +kernel
theorem dX6_init_24 : decode cX6_init 24 = .ok (.iconst 0, 1) := by decide +kernel
theorem dX6_init_25 : decode cX6_init 25 = .ok (.istore_n 1, 1) := by decide +kernel
theorem dX6_init_26 : decode cX6_init 26 = .ok (.iload_n 1, 1) := by decide +kernel
theorem dX6_init_27 : decode cX6_init 27 = .ok (.aload_n 0, 1) := by decide +kernel
theorem dX6_init_28 : decode cX6_init 28 = .ok (.getfield 16, 3) := by decide +kernel
theorem dX6_init_31 : decode cX6_init 31 = .ok (.arraylength, 1) := by decide +kernel
theorem dX6_init_32 : decode cX6_init 32 = .ok (.if_icmp .ge 22, 3) := by decide +kernel
theorem dX6_init_35 : decode cX6_init 35 = .ok (.aload_n 0, 1) := by decide +kernel
theorem dX6_init_36 : decode cX6_init 36 = .ok (.getfield 16, 3) := by decide +kernel
theorem dX6_init_39 : decode cX6_init 39 = .ok (.iload_n 1, 1) := by decide +kernel
theorem dX6_init_40 : decode cX6_init 40 = .ok (.new 7, 3) := by decide +kernel
theorem dX6_init_43 : decode cX6_init 43 = .ok (.dup, 1) := by decide +kernel
theorem dX6_init_44 : decode cX6_init 44 = .ok (.invokespecial 9, 3) := by decide +kernel
theorem dX6_init_47 : decode cX6_init 47 = .ok (.aastore, 1) := by decide +kernel
theorem dX6_init_48 : decode cX6_init 48 = .ok (.iinc 1 1, 3) := by decide +kernel
theorem dX6_init_51 : decode cX6_init 51 = .ok (.goto (-25), 3) := by decide +kernel
theorem dX6_init_54 : decode cX6_init 54 = .ok (.return_, 1) := by decide +kernel
theorem dX6_fed_0 : decode cX6_fed 0 = .ok (.aload_n 0, 1) := by decide +kernel
theorem dX6_fed_1 : decode cX6_fed 1 = .ok (.getfield 10, 3) := by decide +kernel
theorem dX6_fed_4 : decode cX6_fed 4 = .ok (.getfield 20, 3) := by decide +kernel
theorem dX6_fed_7 : decode cX6_fed 7 = .ok (.invokestatic 24, 3) := by decide +kernel
theorem dX6_fed_10 : decode cX6_fed 10 = .ok (.istore_n 2, 1) := by decide +kernel
theorem dX6_fed_11 : decode cX6_fed 11 = .ok (.aload_n 0, 1) := by decide +kernel
theorem dX6_fed_12 : decode cX6_fed 12 = .ok (.getfield 10, 3) := by decide +kernel
theorem dX6_fed_15 : decode cX6_fed 15 = .ok (.iload_n 1, 1) := by decide +kernel
theorem dX6_fed_16 : decode cX6_fed 16 = .ok (.putfield 20, 3) := by decide +kernel
theorem dX6_fed_19 : decode cX6_fed 19 = .ok (.iload_n 2, 1) := by decide +kernel
theorem dX6_fed_20 : decode cX6_fed 20 = .ok (.ireturn, 1) := by decide +kernel
theorem dX6_limit_0 : decode cX6_limit 0 = .ok (.iconst 0, 1) := by decide +kernel
theorem dX6_limit_1 : decode cX6_limit 1 = .ok (.iload_n 1, 1) := by decide +kernel
theorem dX6_limit_2 : decode cX6_limit 2 = .ok (.bipush 30, 2) := by decide +kernel
theorem dX6_limit_4 : decode cX6_limit 4 = .ok (.invokestatic 28, 3) := by decide +kernel
theorem dX6_limit_7 : decode cX6_limit 7 = .ok (.ifCond .ne 5, 3) := by decide +kernel
theorem dX6_limit_10 : decode cX6_limit 10 = .ok (.iconst (-1), 1) := by decide +kernel
theorem dX6_limit_11 : decode cX6_limit 11 = .ok (.ireturn, 1) := by decide +kernel
theorem dX6_limit_12 : decode cX6_limit 12 = .ok (.aload_n 0, 1) := by decide +kernel
theorem dX6_limit_13 : decode cX6_limit 13 = .ok (.getfield 10, 3) := by decide +kernel
theorem dX6_limit_16 : decode cX6_limit 16 = .ok (.getfield 32, 3) := by decide +kernel
theorem dX6_limit_19 : decode cX6_limit 19 = .ok (.istore_n 2, 1) := by decide +kernel
theorem dX6_limit_20 : decode cX6_limit 20 = .ok (.aload_n 0, 1) := by decide +kernel
theorem dX6_limit_21 : decode cX6_limit 21 = .ok (.getfield 10, 3) := by decide +kernel
theorem dX6_limit_24 : decode cX6_limit 24 = .ok (.iload_n 1, 1) := by decide +kernel
theorem dX6_limit_25 : decode cX6_limit 25 = .ok (.putfield 32, 3) := by decide +kernel
theorem dX6_limit_28 : decode cX6_limit 28 = .ok (.iload_n 2, 1) := by decide +kernel
theorem dX6_limit_29 : decode cX6_limit 29 = .ok (.ireturn, 1) := by decide +kernel
theorem dX6_blow_0 : decode cX6_blow 0 = .ok (.aload_n 0, 1) := by decide +kernel
theorem dX6_blow_1 : decode cX6_blow 1 = .ok (.getfield 10, 3) := by decide +kernel
theorem dX6_blow_4 : decode cX6_blow 4 = .ok (.iload_n 1, 1) := by decide +kernel
theorem dX6_blow_5 : decode cX6_blow 5 = .ok (.invokevirtual 36, 3) := by decide +kernel
theorem dX6_blow_8 : decode cX6_blow 8 = .ok (.astore_n 3, 1) := by decide +kernel
theorem dX6_blow_9 : decode cX6_blow 9 = .ok (.aload_n 3, 1) := by decide +kernel
theorem dX6_blow_10 : decode cX6_blow 10 = .ok (.ifnonnull 5, 3) := by decide +kernel
theorem dX6_blow_13 : decode cX6_blow 13 = .ok (.iconst (-1), 1) := by decide +kernel
theorem dX6_blow_14 : decode cX6_blow 14 = .ok (.ireturn, 1) := by decide +kernel
theorem dX6_blow_15 : decode cX6_blow 15 = .ok (.iload_n 2, 1) := by decide +kernel
theorem dX6_blow_16 : decode cX6_blow 16 = .ok (.ifCond .eq 16, 3) := by decide +kernel
theorem dX6_blow_19 : decode cX6_blow 19 = .ok (.aload_n 3, 1) := by decide +kernel
theorem dX6_blow_20 : decode cX6_blow 20 = .ok (.getfield 40, 3) := by decide +kernel
theorem dX6_blow_23 : decode cX6_blow 23 = .ok (.invokevirtual 46, 3) := by decide +kernel
theorem dX6_blow_26 : decode cX6_blow 26 = .ok (.ifCond .ne 6, 3) := by decide +kernel
theorem dX6_blow_29 : decode cX6_blow 29 = .ok (.bipush (-2), 2) := by decide +kernel
theorem dX6_blow_31 : decode cX6_blow 31 = .ok (.ireturn, 1) := by decide +kernel
theorem dX6_blow_32 : decode cX6_blow 32 = .ok (.aload_n 3, 1) := by decide +kernel
theorem dX6_blow_33 : decode cX6_blow 33 = .ok (.getfield 52, 3) := by decide +kernel
theorem dX6_blow_36 : decode cX6_blow 36 = .ok (.invokestatic 24, 3) := by decide +kernel
theorem dX6_blow_39 : decode cX6_blow 39 = .ok (.istore 4, 2) := by decide +kernel
theorem dX6_blow_41 : decode cX6_blow 41 = .ok (.aload_n 3, 1) := by decide +kernel
theorem dX6_blow_42 : decode cX6_blow 42 = .ok (.iload_n 2, 1) := by decide +kernel
theorem dX6_blow_43 : decode cX6_blow 43 = .ok (.putfield 52, 3) := by decide +kernel
theorem dX6_blow_46 : decode cX6_blow 46 = .ok (.iload 4, 2) := by decide +kernel
theorem dX6_blow_48 : decode cX6_blow 48 = .ok (.ireturn, 1) := by decide +kernel
theorem dX6_cold_0 : decode cX6_cold 0 = .ok (.aload_n 0, 1) := by decide +kernel
theorem dX6_cold_1 : decode cX6_cold 1 = .ok (.getfield 10, 3) := by decide +kernel
theorem dX6_cold_4 : decode cX6_cold 4 = .ok (.iload_n 1, 1) := by decide +kernel
theorem dX6_cold_5 : decode cX6_cold 5 = .ok (.invokevirtual 36, 3) := by decide +kernel
theorem dX6_cold_8 : decode cX6_cold 8 = .ok (.astore_n 3, 1) := by decide +kernel
theorem dX6_cold_9 : decode cX6_cold 9 = .ok (.aload_n 3, 1) := by decide +kernel
theorem dX6_cold_10 : decode cX6_cold 10 = .ok (.ifnull 13, 3) := by decide +kernel
theorem dX6_cold_13 : decode cX6_cold 13 = .ok (.iconst 1, 1) := by decide +kernel
theorem dX6_cold_14 : decode cX6_cold 14 = .ok (.iload_n 2, 1) := by decide +kernel
theorem dX6_cold_15 : decode cX6_cold 15 = .ok (.bipush 50, 2) := by decide +kernel
theorem dX6_cold_17 : decode cX6_cold 17 = .ok (.invokestatic 28, 3) := by decide +kernel
theorem dX6_cold_20 : decode cX6_cold 20 = .ok (.ifCond .ne 5, 3) := by decide +kernel
theorem dX6_cold_23 : decode cX6_cold 23 = .ok (.iconst (-1), 1) := by decide +kernel
theorem dX6_cold_24 : decode cX6_cold 24 = .ok (.ireturn, 1) := by decide +kernel
theorem dX6_cold_25 : decode cX6_cold 25 = .ok (.aload_n 3, 1) := by decide +kernel
theorem dX6_cold_26 : decode cX6_cold 26 = .ok (.getfield 40, 3) := by decide +kernel
theorem dX6_cold_29 : decode cX6_cold 29 = .ok (.invokevirtual 46, 3) := by decide +kernel
theorem dX6_cold_32 : decode cX6_cold 32 = .ok (.istore 4, 2) := by decide +kernel
theorem dX6_cold_34 : decode cX6_cold 34 = .ok (.iload 4, 2) := by decide +kernel
theorem dX6_cold_36 : decode cX6_cold 36 = .ok (.ifCond .eq 13, 3) := by decide +kernel
theorem dX6_cold_39 : decode cX6_cold 39 = .ok (.iload 4, 2) := by decide +kernel
theorem dX6_cold_41 : decode cX6_cold 41 = .ok (.iload_n 2, 1) := by decide +kernel
theorem dX6_cold_42 : decode cX6_cold 42 = .ok (.iadd, 1) := by decide +kernel
theorem dX6_cold_43 : decode cX6_cold 43 = .ok (.sipush 300, 3) := by decide +kernel
theorem dX6_cold_46 : decode cX6_cold 46 = .ok (.if_icmp .le 6, 3) := by decide +kernel
theorem dX6_cold_49 : decode cX6_cold 49 = .ok (.bipush (-2), 2) := by decide +kernel
theorem dX6_cold_51 : decode cX6_cold 51 = .ok (.ireturn, 1) := by decide +kernel
theorem dX6_cold_52 : decode cX6_cold 52 = .ok (.aload_n 3, 1) := by decide +kernel
theorem dX6_cold_53 : decode cX6_cold 53 = .ok (.iconst 0, 1) := by decide +kernel
theorem dX6_cold_54 : decode cX6_cold 54 = .ok (.iload_n 2, 1) := by decide +kernel
theorem dX6_cold_55 : decode cX6_cold 55 = .ok (.invokevirtual 55, 3) := by decide +kernel
theorem dX6_cold_58 : decode cX6_cold 58 = .ok (.aload_n 3, 1) := by decide +kernel
theorem dX6_cold_59 : decode cX6_cold 59 = .ok (.getfield 40, 3) := by decide +kernel
theorem dX6_cold_62 : decode cX6_cold 62 = .ok (.dup, 1) := by decide +kernel
theorem dX6_cold_63 : decode cX6_cold 63 = .ok (.getfield 59, 3) := by decide +kernel
theorem dX6_cold_66 : decode cX6_cold 66 = .ok (.iload_n 2, 1) := by decide +kernel
theorem dX6_cold_67 : decode cX6_cold 67 = .ok (.iadd, 1) := by decide +kernel
theorem dX6_cold_68 : decode cX6_cold 68 = .ok (.putfield 59, 3) := by decide +kernel
theorem dX6_cold_71 : decode cX6_cold 71 = .ok (.aload_n 0, 1) := by decide +kernel
theorem dX6_cold_72 : decode cX6_cold 72 = .ok (.getfield 10, 3) := by decide +kernel
theorem dX6_cold_75 : decode cX6_cold 75 = .ok (.getfield 62, 3) := by decide +kernel
theorem dX6_cold_78 : decode cX6_cold 78 = .ok (.getfield 66, 3) := by decide +kernel
theorem dX6_cold_81 : decode cX6_cold 81 = .ok (.dup, 1) := by decide +kernel
theorem dX6_cold_82 : decode cX6_cold 82 = .ok (.getfield 59, 3) := by decide +kernel
theorem dX6_cold_85 : decode cX6_cold 85 = .ok (.iload_n 2, 1) := by decide +kernel
theorem dX6_cold_86 : decode cX6_cold 86 = .ok (.iadd, 1) := by decide +kernel
theorem dX6_cold_87 : decode cX6_cold 87 = .ok (.putfield 59, 3) := by decide +kernel
theorem dX6_cold_90 : decode cX6_cold 90 = .ok (.aload_n 3, 1) := by decide +kernel
theorem dX6_cold_91 : decode cX6_cold 91 = .ok (.getfield 71, 3) := by decide +kernel
theorem dX6_cold_94 : decode cX6_cold 94 = .ok (.ireturn, 1) := by decide +kernel
theorem dX6_order_0 : decode cX6_order 0 = .ok (.aload_n 0, 1) := by decide +kernel
theorem dX6_order_1 : decode cX6_order 1 = .ok (.getfield 10, 3) := by decide +kernel
theorem dX6_order_4 : decode cX6_order 4 = .ok (.iload_n 1, 1) := by decide +kernel
theorem dX6_order_5 : decode cX6_order 5 = .ok (.invokevirtual 74, 3) := by decide +kernel
theorem dX6_order_8 : decode cX6_order 8 = .ok (.astore 4, 2) := by decide +kernel
theorem dX6_order_10 : decode cX6_order 10 = .ok (.aload 4, 2) := by decide +kernel
theorem dX6_order_12 : decode cX6_order 12 = .ok (.ifnull 13, 3) := by decide +kernel
theorem dX6_order_15 : decode cX6_order 15 = .ok (.iconst 0, 1) := by decide +kernel
theorem dX6_order_16 : decode cX6_order 16 = .ok (.iload_n 2, 1) := by decide +kernel
theorem dX6_order_17 : decode cX6_order 17 = .ok (.bipush 7, 2) := by decide +kernel
theorem dX6_order_19 : decode cX6_order 19 = .ok (.invokestatic 28, 3) := by decide +kernel
theorem dX6_order_22 : decode cX6_order 22 = .ok (.ifCond .ne 5, 3) := by decide +kernel
theorem dX6_order_25 : decode cX6_order 25 = .ok (.iconst (-1), 1) := by decide +kernel
theorem dX6_order_26 : decode cX6_order 26 = .ok (.ireturn, 1) := by decide +kernel
theorem dX6_order_27 : decode cX6_order 27 = .ok (.iload_n 2, 1) := by decide +kernel
theorem dX6_order_28 : decode cX6_order 28 = .ok (.ifCond .ne 15, 3) := by decide +kernel
theorem dX6_order_31 : decode cX6_order 31 = .ok (.iconst 0, 1) := by decide +kernel
theorem dX6_order_32 : decode cX6_order 32 = .ok (.iload_n 3, 1) := by decide +kernel
theorem dX6_order_33 : decode cX6_order 33 = .ok (.bipush 15, 2) := by decide +kernel
theorem dX6_order_35 : decode cX6_order 35 = .ok (.invokestatic 28, 3) := by decide +kernel
theorem dX6_order_38 : decode cX6_order 38 = .ok (.ifCond .ne 5, 3) := by decide +kernel
theorem dX6_order_41 : decode cX6_order 41 = .ok (.iconst (-1), 1) := by decide +kernel
theorem dX6_order_42 : decode cX6_order 42 = .ok (.ireturn, 1) := by decide +kernel
theorem dX6_order_43 : decode cX6_order 43 = .ok (.aload 4, 2) := by decide +kernel
theorem dX6_order_45 : decode cX6_order 45 = .ok (.iload_n 2, 1) := by decide +kernel
theorem dX6_order_46 : decode cX6_order 46 = .ok (.iload_n 3, 1) := by decide +kernel
theorem dX6_order_47 : decode cX6_order 47 = .ok (.invokevirtual 78, 3) := by decide +kernel
theorem dX6_order_50 : decode cX6_order 50 = .ok (.ifCond .eq 11, 3) := by decide +kernel
theorem dX6_order_53 : decode cX6_order 53 = .ok (.aload 4, 2) := by decide +kernel
theorem dX6_order_55 : decode cX6_order 55 = .ok (.getfield 84, 3) := by decide +kernel
theorem dX6_order_58 : decode cX6_order 58 = .ok (.goto 5, 3) := by decide +kernel
theorem dX6_order_61 : decode cX6_order 61 = .ok (.bipush (-3), 2) := by decide +kernel
theorem dX6_order_63 : decode cX6_order 63 = .ok (.ireturn, 1) := by decide +kernel
theorem dX6_drop_0 : decode cX6_drop 0 = .ok (.aload_n 0, 1) := by decide +kernel
theorem dX6_drop_1 : decode cX6_drop 1 = .ok (.getfield 10, 3) := by decide +kernel
theorem dX6_drop_4 : decode cX6_drop 4 = .ok (.iload_n 1, 1) := by decide +kernel
theorem dX6_drop_5 : decode cX6_drop 5 = .ok (.invokevirtual 74, 3) := by decide +kernel
theorem dX6_drop_8 : decode cX6_drop 8 = .ok (.astore_n 2, 1) := by decide +kernel
theorem dX6_drop_9 : decode cX6_drop 9 = .ok (.aload_n 2, 1) := by decide +kernel
theorem dX6_drop_10 : decode cX6_drop 10 = .ok (.ifnonnull 5, 3) := by decide +kernel
theorem dX6_drop_13 : decode cX6_drop 13 = .ok (.iconst (-1), 1) := by decide +kernel
theorem dX6_drop_14 : decode cX6_drop 14 = .ok (.ireturn, 1) := by decide +kernel
theorem dX6_drop_15 : decode cX6_drop 15 = .ok (.aload_n 2, 1) := by decide +kernel
theorem dX6_drop_16 : decode cX6_drop 16 = .ok (.getfield 84, 3) := by decide +kernel
theorem dX6_drop_19 : decode cX6_drop 19 = .ok (.istore_n 3, 1) := by decide +kernel
theorem dX6_drop_20 : decode cX6_drop 20 = .ok (.aload_n 2, 1) := by decide +kernel
theorem dX6_drop_21 : decode cX6_drop 21 = .ok (.iconst 0, 1) := by decide +kernel
theorem dX6_drop_22 : decode cX6_drop 22 = .ok (.putfield 84, 3) := by decide +kernel
theorem dX6_drop_25 : decode cX6_drop 25 = .ok (.iload_n 3, 1) := by decide +kernel
theorem dX6_drop_26 : decode cX6_drop 26 = .ok (.ireturn, 1) := by decide +kernel
theorem dX6_minutes_0 : decode cX6_minutes 0 = .ok (.iconst 1, 1) := by decide +kernel
theorem dX6_minutes_1 : decode cX6_minutes 1 = .ok (.iload_n 1, 1) := by decide +kernel
theorem dX6_minutes_2 : decode cX6_minutes 2 = .ok (.bipush 60, 2) := by decide +kernel
theorem dX6_minutes_4 : decode cX6_minutes 4 = .ok (.invokestatic 28, 3) := by decide +kernel
theorem dX6_minutes_7 : decode cX6_minutes 7 = .ok (.ifCond .ne 5, 3) := by decide +kernel
theorem dX6_minutes_10 : decode cX6_minutes 10 = .ok (.iconst (-1), 1) := by decide +kernel
theorem dX6_minutes_11 : decode cX6_minutes 11 = .ok (.ireturn, 1) := by decide +kernel
theorem dX6_minutes_12 : decode cX6_minutes 12 = .ok (.aload_n 0, 1) := by decide +kernel
theorem dX6_minutes_13 : decode cX6_minutes 13 = .ok (.getfield 10, 3) := by decide +kernel
theorem dX6_minutes_16 : decode cX6_minutes 16 = .ok (.getfield 62, 3) := by decide +kernel
theorem dX6_minutes_19 : decode cX6_minutes 19 = .ok (.getfield 87, 3) := by decide +kernel
theorem dX6_minutes_22 : decode cX6_minutes 22 = .ok (.istore_n 2, 1) := by decide +kernel
theorem dX6_minutes_23 : decode cX6_minutes 23 = .ok (.iconst 0, 1) := by decide +kernel
theorem dX6_minutes_24 : decode cX6_minutes 24 = .ok (.istore_n 3, 1) := by decide +kernel
theorem dX6_minutes_25 : decode cX6_minutes 25 = .ok (.iload_n 3, 1) := by decide +kernel
theorem dX6_minutes_26 : decode cX6_minutes 26 = .ok (.iload_n 1, 1) := by decide +kernel
theorem dX6_minutes_27 : decode cX6_minutes 27 = .ok (.if_icmp .ge 16, 3) := by decide +kernel
theorem dX6_minutes_30 : decode cX6_minutes 30 = .ok (.aload_n 0, 1) := by decide +kernel
theorem dX6_minutes_31 : decode cX6_minutes 31 = .ok (.getfield 10, 3) := by decide +kernel
theorem dX6_minutes_34 : decode cX6_minutes 34 = .ok (.invokevirtual 90, 3) := by decide +kernel
theorem dX6_minutes_37 : decode cX6_minutes 37 = .ok (.iinc 3 1, 3) := by decide +kernel
theorem dX6_minutes_40 : decode cX6_minutes 40 = .ok (.goto (-15), 3) := by decide +kernel
theorem dX6_minutes_43 : decode cX6_minutes 43 = .ok (.aload_n 0, 1) := by decide +kernel
theorem dX6_minutes_44 : decode cX6_minutes 44 = .ok (.getfield 10, 3) := by decide +kernel
theorem dX6_minutes_47 : decode cX6_minutes 47 = .ok (.getfield 62, 3) := by decide +kernel
theorem dX6_minutes_50 : decode cX6_minutes 50 = .ok (.getfield 87, 3) := by decide +kernel
theorem dX6_minutes_53 : decode cX6_minutes 53 = .ok (.iload_n 2, 1) := by decide +kernel
theorem dX6_minutes_54 : decode cX6_minutes 54 = .ok (.isub, 1) := by decide +kernel
theorem dX6_minutes_55 : decode cX6_minutes 55 = .ok (.ireturn, 1) := by decide +kernel
theorem dX6_until_0 : decode cX6_until 0 = .ok (.iconst 1, 1) := by decide +kernel
theorem dX6_until_1 : decode cX6_until 1 = .ok (.iload_n 1, 1) := by decide +kernel
theorem dX6_until_2 : decode cX6_until 2 = .ok (.sipush 200, 3) := by decide +kernel
theorem dX6_until_5 : decode cX6_until 5 = .ok (.invokestatic 28, 3) := by decide +kernel
theorem dX6_until_8 : decode cX6_until 8 = .ok (.ifCond .ne 5, 3) := by decide +kernel
theorem dX6_until_11 : decode cX6_until 11 = .ok (.iconst (-1), 1) := by decide +kernel
theorem dX6_until_12 : decode cX6_until 12 = .ok (.ireturn, 1) := by decide +kernel
theorem dX6_until_13 : decode cX6_until 13 = .ok (.iconst 0, 1) := by decide +kernel
theorem dX6_until_14 : decode cX6_until 14 = .ok (.istore_n 2, 1) := by decide +kernel
theorem dX6_until_15 : decode cX6_until 15 = .ok (.iload_n 2, 1) := by decide +kernel
theorem dX6_until_16 : decode cX6_until 16 = .ok (.iload_n 1, 1) := by decide +kernel
theorem dX6_until_17 : decode cX6_until 17 = .ok (.if_icmp .ge 26, 3) := by decide +kernel
theorem dX6_until_20 : decode cX6_until 20 = .ok (.aload_n 0, 1) := by decide +kernel
theorem dX6_until_21 : decode cX6_until 21 = .ok (.getfield 10, 3) := by decide +kernel
theorem dX6_until_24 : decode cX6_until 24 = .ok (.invokevirtual 93, 3) := by decide +kernel
theorem dX6_until_27 : decode cX6_until 27 = .ok (.ifCond .eq 16, 3) := by decide +kernel
theorem dX6_until_30 : decode cX6_until 30 = .ok (.aload_n 0, 1) := by decide +kernel
theorem dX6_until_31 : decode cX6_until 31 = .ok (.getfield 10, 3) := by decide +kernel
theorem dX6_until_34 : decode cX6_until 34 = .ok (.invokevirtual 90, 3) := by decide +kernel
theorem dX6_until_37 : decode cX6_until 37 = .ok (.iinc 2 1, 3) := by decide +kernel
theorem dX6_until_40 : decode cX6_until 40 = .ok (.goto (-25), 3) := by decide +kernel
theorem dX6_until_43 : decode cX6_until 43 = .ok (.iload_n 2, 1) := by decide +kernel
theorem dX6_until_44 : decode cX6_until 44 = .ok (.ireturn, 1) := by decide +kernel
theorem dX6_crane_0 : decode cX6_crane 0 = .ok (.aload_n 0, 1) := by decide +kernel
theorem dX6_crane_1 : decode cX6_crane 1 = .ok (.getfield 10, 3) := by decide +kernel
theorem dX6_crane_4 : decode cX6_crane 4 = .ok (.iload_n 1, 1) := by decide +kernel
theorem dX6_crane_5 : decode cX6_crane 5 = .ok (.invokevirtual 74, 3) := by decide +kernel
theorem dX6_crane_8 : decode cX6_crane 8 = .ok (.astore_n 3, 1) := by decide +kernel
theorem dX6_crane_9 : decode cX6_crane 9 = .ok (.aload_n 3, 1) := by decide +kernel
theorem dX6_crane_10 : decode cX6_crane 10 = .ok (.ifnonnull 5, 3) := by decide +kernel
theorem dX6_crane_13 : decode cX6_crane 13 = .ok (.iconst (-1), 1) := by decide +kernel
theorem dX6_crane_14 : decode cX6_crane 14 = .ok (.ireturn, 1) := by decide +kernel
theorem dX6_crane_15 : decode cX6_crane 15 = .ok (.iload_n 2, 1) := by decide +kernel
theorem dX6_crane_16 : decode cX6_crane 16 = .ok (.iconst 1, 1) := by decide +kernel
theorem dX6_crane_17 : decode cX6_crane 17 = .ok (.if_icmp .ne 14, 3) := by decide +kernel
theorem dX6_crane_20 : decode cX6_crane 20 = .ok (.aload_n 0, 1) := by decide +kernel
theorem dX6_crane_21 : decode cX6_crane 21 = .ok (.getfield 10, 3) := by decide +kernel
theorem dX6_crane_24 : decode cX6_crane 24 = .ok (.aload_n 3, 1) := by decide +kernel
theorem dX6_crane_25 : decode cX6_crane 25 = .ok (.invokevirtual 97, 3) := by decide +kernel
theorem dX6_crane_28 : decode cX6_crane 28 = .ok (.goto 8, 3) := by decide +kernel
theorem dX6_crane_31 : decode cX6_crane 31 = .ok (.aload_n 3, 1) := by decide +kernel
theorem dX6_crane_32 : decode cX6_crane 32 = .ok (.iload_n 2, 1) := by decide +kernel
theorem dX6_crane_33 : decode cX6_crane 33 = .ok (.invokevirtual 101, 3) := by decide +kernel
theorem dX6_crane_36 : decode cX6_crane 36 = .ok (.ireturn, 1) := by decide +kernel
theorem dX6_ladle_0 : decode cX6_ladle 0 = .ok (.aload_n 0, 1) := by decide +kernel
theorem dX6_ladle_1 : decode cX6_ladle 1 = .ok (.getfield 10, 3) := by decide +kernel
theorem dX6_ladle_4 : decode cX6_ladle 4 = .ok (.iload_n 1, 1) := by decide +kernel
theorem dX6_ladle_5 : decode cX6_ladle 5 = .ok (.invokevirtual 105, 3) := by decide +kernel
theorem dX6_ladle_8 : decode cX6_ladle 8 = .ok (.astore_n 3, 1) := by decide +kernel
theorem dX6_ladle_9 : decode cX6_ladle 9 = .ok (.aload_n 3, 1) := by decide +kernel
theorem dX6_ladle_10 : decode cX6_ladle 10 = .ok (.ifnonnull 7, 3) := by decide +kernel
theorem dX6_ladle_13 : decode cX6_ladle 13 = .ok (.iconst (-1), 1) := by decide +kernel
theorem dX6_ladle_14 : decode cX6_ladle 14 = .ok (.goto 8, 3) := by decide +kernel
theorem dX6_ladle_17 : decode cX6_ladle 17 = .ok (.aload_n 3, 1) := by decide +kernel
theorem dX6_ladle_18 : decode cX6_ladle 18 = .ok (.iload_n 2, 1) := by decide +kernel
theorem dX6_ladle_19 : decode cX6_ladle 19 = .ok (.invokevirtual 109, 3) := by decide +kernel
theorem dX6_ladle_22 : decode cX6_ladle 22 = .ok (.ireturn, 1) := by decide +kernel
theorem dX6_vessel_0 : decode cX6_vessel 0 = .ok (.aload_n 0, 1) := by decide +kernel
theorem dX6_vessel_1 : decode cX6_vessel 1 = .ok (.getfield 10, 3) := by decide +kernel
theorem dX6_vessel_4 : decode cX6_vessel 4 = .ok (.iload_n 1, 1) := by decide +kernel
theorem dX6_vessel_5 : decode cX6_vessel 5 = .ok (.invokevirtual 36, 3) := by decide +kernel
theorem dX6_vessel_8 : decode cX6_vessel 8 = .ok (.astore_n 3, 1) := by decide +kernel
theorem dX6_vessel_9 : decode cX6_vessel 9 = .ok (.aload_n 3, 1) := by decide +kernel
theorem dX6_vessel_10 : decode cX6_vessel 10 = .ok (.ifnonnull 7, 3) := by decide +kernel
theorem dX6_vessel_13 : decode cX6_vessel 13 = .ok (.iconst (-1), 1) := by decide +kernel
theorem dX6_vessel_14 : decode cX6_vessel 14 = .ok (.goto 8, 3) := by decide +kernel
theorem dX6_vessel_17 : decode cX6_vessel 17 = .ok (.aload_n 3, 1) := by decide +kernel
theorem dX6_vessel_18 : decode cX6_vessel 18 = .ok (.iload_n 2, 1) := by decide +kernel
theorem dX6_vessel_19 : decode cX6_vessel 19 = .ok (.invokevirtual 112, 3) := by decide +kernel
theorem dX6_vessel_22 : decode cX6_vessel 22 = .ok (.ireturn, 1) := by decide +kernel
theorem dX6_book_0 : decode cX6_book 0 = .ok (.iconst 1, 1) := by decide +kernel
theorem dX6_book_1 : decode cX6_book 1 = .ok (.iload_n 2, 1) := by decide +kernel
theorem dX6_book_2 : decode cX6_book 2 = .ok (.iconst 4, 1) := by decide +kernel
theorem dX6_book_3 : decode cX6_book 3 = .ok (.invokestatic 28, 3) := by decide +kernel
theorem dX6_book_6 : decode cX6_book 6 = .ok (.ifCond .eq 15, 3) := by decide +kernel
theorem dX6_book_9 : decode cX6_book 9 = .ok (.aload_n 0, 1) := by decide +kernel
theorem dX6_book_10 : decode cX6_book 10 = .ok (.getfield 10, 3) := by decide +kernel
theorem dX6_book_13 : decode cX6_book 13 = .ok (.iload_n 1, 1) := by decide +kernel
theorem dX6_book_14 : decode cX6_book 14 = .ok (.iload_n 2, 1) := by decide +kernel
theorem dX6_book_15 : decode cX6_book 15 = .ok (.invokevirtual 113, 3) := by decide +kernel
theorem dX6_book_18 : decode cX6_book 18 = .ok (.goto 4, 3) := by decide +kernel
theorem dX6_book_21 : decode cX6_book 21 = .ok (.iconst (-1), 1) := by decide +kernel
theorem dX6_book_22 : decode cX6_book 22 = .ok (.ireturn, 1) := by decide +kernel
theorem dX6_count_0 : decode cX6_count 0 = .ok (.iload_n 1, 1) := by decide +kernel
theorem dX6_count_1 : decode cX6_count 1 = .ok (.tableswitch 51 7 9 #[27, 32, 40], 27) := by decide +kernel
theorem dX6_count_28 : decode cX6_count 28 = .ok (.aload_n 0, 1) := by decide +kernel
theorem dX6_count_29 : decode cX6_count 29 = .ok (.getfield 117, 3) := by decide +kernel
theorem dX6_count_32 : decode cX6_count 32 = .ok (.ireturn, 1) := by decide +kernel
theorem dX6_count_33 : decode cX6_count 33 = .ok (.aload_n 0, 1) := by decide +kernel
theorem dX6_count_34 : decode cX6_count 34 = .ok (.getfield 10, 3) := by decide +kernel
theorem dX6_count_37 : decode cX6_count 37 = .ok (.getfield 32, 3) := by decide +kernel
theorem dX6_count_40 : decode cX6_count 40 = .ok (.ireturn, 1) := by decide +kernel
theorem dX6_count_41 : decode cX6_count 41 = .ok (.aload_n 0, 1) := by decide +kernel
theorem dX6_count_42 : decode cX6_count 42 = .ok (.getfield 10, 3) := by decide +kernel
theorem dX6_count_45 : decode cX6_count 45 = .ok (.getfield 20, 3) := by decide +kernel
theorem dX6_count_48 : decode cX6_count 48 = .ok (.invokestatic 24, 3) := by decide +kernel
theorem dX6_count_51 : decode cX6_count 51 = .ok (.ireturn, 1) := by decide +kernel
theorem dX6_count_52 : decode cX6_count 52 = .ok (.aload_n 0, 1) := by decide +kernel
theorem dX6_count_53 : decode cX6_count 53 = .ok (.getfield 10, 3) := by decide +kernel
theorem dX6_count_56 : decode cX6_count 56 = .ok (.getfield 62, 3) := by decide +kernel
theorem dX6_count_59 : decode cX6_count 59 = .ok (.iload_n 1, 1) := by decide +kernel
theorem dX6_count_60 : decode cX6_count 60 = .ok (.invokevirtual 120, 3) := by decide +kernel
theorem dX6_count_63 : decode cX6_count 63 = .ok (.ireturn, 1) := by decide +kernel
theorem dX6_keep_0 : decode cX6_keep 0 = .ok (.aload_n 0, 1) := by decide +kernel
theorem dX6_keep_1 : decode cX6_keep 1 = .ok (.getfield 117, 3) := by decide +kernel
theorem dX6_keep_4 : decode cX6_keep 4 = .ok (.ifCond .lt 15, 3) := by decide +kernel
theorem dX6_keep_7 : decode cX6_keep 7 = .ok (.aload_n 0, 1) := by decide +kernel
theorem dX6_keep_8 : decode cX6_keep 8 = .ok (.getfield 117, 3) := by decide +kernel
theorem dX6_keep_11 : decode cX6_keep 11 = .ok (.aload_n 0, 1) := by decide +kernel
theorem dX6_keep_12 : decode cX6_keep 12 = .ok (.getfield 16, 3) := by decide +kernel
theorem dX6_keep_15 : decode cX6_keep 15 = .ok (.arraylength, 1) := by decide +kernel
theorem dX6_keep_16 : decode cX6_keep 16 = .ok (.if_icmp .lt 6, 3) := by decide +kernel
theorem dX6_keep_19 : decode cX6_keep 19 = .ok (.bipush (-3), 2) := by decide +kernel
theorem dX6_keep_21 : decode cX6_keep 21 = .ok (.ireturn, 1) := by decide +kernel
theorem dX6_keep_22 : decode cX6_keep 22 = .ok (.aload_n 0, 1) := by decide +kernel
theorem dX6_keep_23 : decode cX6_keep 23 = .ok (.getfield 16, 3) := by decide +kernel
theorem dX6_keep_26 : decode cX6_keep 26 = .ok (.aload_n 0, 1) := by decide +kernel
theorem dX6_keep_27 : decode cX6_keep 27 = .ok (.getfield 117, 3) := by decide +kernel
theorem dX6_keep_30 : decode cX6_keep 30 = .ok (.aaload, 1) := by decide +kernel
theorem dX6_keep_31 : decode cX6_keep 31 = .ok (.aload_n 0, 1) := by decide +kernel
theorem dX6_keep_32 : decode cX6_keep 32 = .ok (.getfield 10, 3) := by decide +kernel
theorem dX6_keep_35 : decode cX6_keep 35 = .ok (.invokevirtual 121, 3) := by decide +kernel
theorem dX6_keep_38 : decode cX6_keep 38 = .ok (.aload_n 0, 1) := by decide +kernel
theorem dX6_keep_39 : decode cX6_keep 39 = .ok (.dup, 1) := by decide +kernel
theorem dX6_keep_40 : decode cX6_keep 40 = .ok (.getfield 117, 3) := by decide +kernel
theorem dX6_keep_43 : decode cX6_keep 43 = .ok (.iconst 1, 1) := by decide +kernel
theorem dX6_keep_44 : decode cX6_keep 44 = .ok (.iadd, 1) := by decide +kernel
theorem dX6_keep_45 : decode cX6_keep 45 = .ok (.putfield 117, 3) := by decide +kernel
theorem dX6_keep_48 : decode cX6_keep 48 = .ok (.aload_n 0, 1) := by decide +kernel
theorem dX6_keep_49 : decode cX6_keep 49 = .ok (.getfield 117, 3) := by decide +kernel
theorem dX6_keep_52 : decode cX6_keep 52 = .ok (.ireturn, 1) := by decide +kernel
theorem dX6_back_0 : decode cX6_back 0 = .ok (.aload_n 0, 1) := by decide +kernel
theorem dX6_back_1 : decode cX6_back 1 = .ok (.getfield 117, 3) := by decide +kernel
theorem dX6_back_4 : decode cX6_back 4 = .ok (.iconst 1, 1) := by decide +kernel
theorem dX6_back_5 : decode cX6_back 5 = .ok (.if_icmp .lt 15, 3) := by decide +kernel
theorem dX6_back_8 : decode cX6_back 8 = .ok (.aload_n 0, 1) := by decide +kernel
theorem dX6_back_9 : decode cX6_back 9 = .ok (.getfield 117, 3) := by decide +kernel
theorem dX6_back_12 : decode cX6_back 12 = .ok (.aload_n 0, 1) := by decide +kernel
theorem dX6_back_13 : decode cX6_back 13 = .ok (.getfield 16, 3) := by decide +kernel
theorem dX6_back_16 : decode cX6_back 16 = .ok (.arraylength, 1) := by decide +kernel
theorem dX6_back_17 : decode cX6_back 17 = .ok (.if_icmp .le 6, 3) := by decide +kernel
theorem dX6_back_20 : decode cX6_back 20 = .ok (.bipush (-2), 2) := by decide +kernel
theorem dX6_back_22 : decode cX6_back 22 = .ok (.ireturn, 1) := by decide +kernel
theorem dX6_back_23 : decode cX6_back 23 = .ok (.aload_n 0, 1) := by decide +kernel
theorem dX6_back_24 : decode cX6_back 24 = .ok (.dup, 1) := by decide +kernel
theorem dX6_back_25 : decode cX6_back 25 = .ok (.getfield 117, 3) := by decide +kernel
theorem dX6_back_28 : decode cX6_back 28 = .ok (.iconst 1, 1) := by decide +kernel
theorem dX6_back_29 : decode cX6_back 29 = .ok (.isub, 1) := by decide +kernel
theorem dX6_back_30 : decode cX6_back 30 = .ok (.putfield 117, 3) := by decide +kernel
theorem dX6_back_33 : decode cX6_back 33 = .ok (.aload_n 0, 1) := by decide +kernel
theorem dX6_back_34 : decode cX6_back 34 = .ok (.getfield 10, 3) := by decide +kernel
theorem dX6_back_37 : decode cX6_back 37 = .ok (.aload_n 0, 1) := by decide +kernel
theorem dX6_back_38 : decode cX6_back 38 = .ok (.getfield 16, 3) := by decide +kernel
theorem dX6_back_41 : decode cX6_back 41 = .ok (.aload_n 0, 1) := by decide +kernel
theorem dX6_back_42 : decode cX6_back 42 = .ok (.getfield 117, 3) := by decide +kernel
theorem dX6_back_45 : decode cX6_back 45 = .ok (.aaload, 1) := by decide +kernel
theorem dX6_back_46 : decode cX6_back 46 = .ok (.invokevirtual 121, 3) := by decide +kernel
theorem dX6_back_49 : decode cX6_back 49 = .ok (.aload_n 0, 1) := by decide +kernel
theorem dX6_back_50 : decode cX6_back 50 = .ok (.getfield 10, 3) := by decide +kernel
theorem dX6_back_53 : decode cX6_back 53 = .ok (.getfield 62, 3) := by decide +kernel
theorem dX6_back_56 : decode cX6_back 56 = .ok (.getfield 125, 3) := by decide +kernel
theorem dX6_back_59 : decode cX6_back 59 = .ok (.ireturn, 1) := by decide +kernel
theorem dX6_isBetween_0 : decode cX6_isBetween 0 = .ok (.iload_n 0, 1) := by decide +kernel
theorem dX6_isBetween_1 : decode cX6_isBetween 1 = .ok (.iload_n 1, 1) := by decide +kernel
theorem dX6_isBetween_2 : decode cX6_isBetween 2 = .ok (.if_icmp .gt 12, 3) := by decide +kernel
theorem dX6_isBetween_5 : decode cX6_isBetween 5 = .ok (.iload_n 1, 1) := by decide +kernel
theorem dX6_isBetween_6 : decode cX6_isBetween 6 = .ok (.iload_n 2, 1) := by decide +kernel
theorem dX6_isBetween_7 : decode cX6_isBetween 7 = .ok (.if_icmp .gt 7, 3) := by decide +kernel
theorem dX6_isBetween_10 : decode cX6_isBetween 10 = .ok (.iconst 1, 1) := by decide +kernel
theorem dX6_isBetween_11 : decode cX6_isBetween 11 = .ok (.goto 4, 3) := by decide +kernel
theorem dX6_isBetween_14 : decode cX6_isBetween 14 = .ok (.iconst 0, 1) := by decide +kernel
theorem dX6_isBetween_15 : decode cX6_isBetween 15 = .ok (.ireturn, 1) := by decide +kernel
theorem dX6_oneIf_0 : decode cX6_oneIf 0 = .ok (.iload_n 0, 1) := by decide +kernel
theorem dX6_oneIf_1 : decode cX6_oneIf 1 = .ok (.ifCond .eq 7, 3) := by decide +kernel
theorem dX6_oneIf_4 : decode cX6_oneIf 4 = .ok (.iconst 1, 1) := by decide +kernel
theorem dX6_oneIf_5 : decode cX6_oneIf 5 = .ok (.goto 4, 3) := by decide +kernel
theorem dX6_oneIf_8 : decode cX6_oneIf 8 = .ok (.iconst 0, 1) := by decide +kernel
theorem dX6_oneIf_9 : decode cX6_oneIf 9 = .ok (.ireturn, 1) := by decide +kernel
theorem dX6_copyRow_0 : decode cX6_copyRow 0 = .ok (.iconst 0, 1) := by decide +kernel
theorem dX6_copyRow_1 : decode cX6_copyRow 1 = .ok (.istore_n 2, 1) := by decide +kernel
theorem dX6_copyRow_2 : decode cX6_copyRow 2 = .ok (.iload_n 2, 1) := by decide +kernel
theorem dX6_copyRow_3 : decode cX6_copyRow 3 = .ok (.aload_n 0, 1) := by decide +kernel
theorem dX6_copyRow_4 : decode cX6_copyRow 4 = .ok (.arraylength, 1) := by decide +kernel
theorem dX6_copyRow_5 : decode cX6_copyRow 5 = .ok (.if_icmp .ge 21, 3) := by decide +kernel
theorem dX6_copyRow_8 : decode cX6_copyRow 8 = .ok (.iload_n 2, 1) := by decide +kernel
theorem dX6_copyRow_9 : decode cX6_copyRow 9 = .ok (.aload_n 1, 1) := by decide +kernel
theorem dX6_copyRow_10 : decode cX6_copyRow 10 = .ok (.arraylength, 1) := by decide +kernel
theorem dX6_copyRow_11 : decode cX6_copyRow 11 = .ok (.if_icmp .ge 15, 3) := by decide +kernel
theorem dX6_copyRow_14 : decode cX6_copyRow 14 = .ok (.aload_n 1, 1) := by decide +kernel
theorem dX6_copyRow_15 : decode cX6_copyRow 15 = .ok (.iload_n 2, 1) := by decide +kernel
theorem dX6_copyRow_16 : decode cX6_copyRow 16 = .ok (.aload_n 0, 1) := by decide +kernel
theorem dX6_copyRow_17 : decode cX6_copyRow 17 = .ok (.iload_n 2, 1) := by decide +kernel
theorem dX6_copyRow_18 : decode cX6_copyRow 18 = .ok (.iaload, 1) := by decide +kernel
theorem dX6_copyRow_19 : decode cX6_copyRow 19 = .ok (.iastore, 1) := by decide +kernel
theorem dX6_copyRow_20 : decode cX6_copyRow 20 = .ok (.iinc 2 1, 3) := by decide +kernel
theorem dX6_copyRow_23 : decode cX6_copyRow 23 = .ok (.goto (-21), 3) := by decide +kernel
theorem dX6_copyRow_26 : decode cX6_copyRow 26 = .ok (.return_, 1) := by decide +kernel
end
section
/-! decode rows: the reference and the law -/
theorem dX7_init_0 : decode cX7_init 0 = .ok (.aload_n 0, 1) := by decide +kernel
theorem dX7_init_1 : decode cX7_init 1 = .ok (.invokespecial 1, 3) := by decide +kernel
theorem dX7_init_4 : decode cX7_init 4 = .ok (.aload_n 0, 1) := by decide +kernel
theorem dX7_init_5 : decode cX7_init 5 = .ok (.sipush 150, 3) := by decide +kernel
theorem dX7_init_8 : decode cX7_init 8 = .ok (.newarray .int, 2) := by decide +kernel
theorem dX7_init_10 : decode cX7_init 10 = .ok (.putfield 7, 3) := by decide +kernel
theorem dX7_init_13 : decode cX7_init 13 = .ok (.aload_n 0, 1) := by decide +kernel
theorem dX7_init_14 : decode cX7_init 14 = .ok (.sipush 1200, 3) := by decide +kernel
theorem dX7_init_17 : decode cX7_init 17 = .ok (.newarray .int, 2) := by decide +kernel
theorem dX7_init_19 : decode cX7_init 19 = .ok (.putfield 13, 3) := by decide +kernel
theorem dX7_init_22 : decode cX7_init 22 = .ok (.iconst 0, 1) := by decide +kernel
theorem dX7_init_23 : decode cX7_init 23 = .ok (.istore_n 1, 1) := by decide +kernel
theorem dX7_init_24 : decode cX7_init 24 = .ok (.iload_n 1, 1) := by decide +kernel
theorem dX7_init_25 : decode cX7_init 25 = .ok (.iconst 4, 1) := by decide +kernel
theorem dX7_init_26 : decode cX7_init 26 = .ok (.if_icmp .ge 58, 3) := by decide +kernel
theorem dX7_init_29 : decode cX7_init 29 = .ok (.aload_n 0, 1) := by decide +kernel
theorem dX7_init_30 : decode cX7_init 30 = .ok (.getfield 7, 3) := by decide +kernel
theorem dX7_init_33 : decode cX7_init 33 = .ok (.bipush 88, 2) := by decide +kernel
theorem dX7_init_35 : decode cX7_init 35 = .ok (.iload_n 1, 1) := by decide +kernel
theorem dX7_init_36 : decode cX7_init 36 = .ok (.iadd, 1) := by decide +kernel
theorem dX7_init_37 : decode cX7_init 37 = .ok (.iload_n 1, 1) := by decide +kernel
theorem dX7_init_38 : decode cX7_init 38 = .ok (.ifCond .ne 7, 3) := by decide +kernel
theorem dX7_init_41 : decode cX7_init 41 = .ok (.iconst 1, 1) := by decide +kernel
theorem dX7_init_42 : decode cX7_init 42 = .ok (.goto 25, 3) := by decide +kernel
theorem dX7_init_45 : decode cX7_init 45 = .ok (.iload_n 1, 1) := by decide +kernel
theorem dX7_init_46 : decode cX7_init 46 = .ok (.iconst 1, 1) := by decide +kernel
theorem dX7_init_47 : decode cX7_init 47 = .ok (.if_icmp .ne 8, 3) := by decide +kernel
theorem dX7_init_50 : decode cX7_init 50 = .ok (.bipush 6, 2) := by decide +kernel
theorem dX7_init_52 : decode cX7_init 52 = .ok (.goto 15, 3) := by decide +kernel
theorem dX7_init_55 : decode cX7_init 55 = .ok (.iload_n 1, 1) := by decide +kernel
theorem dX7_init_56 : decode cX7_init 56 = .ok (.iconst 2, 1) := by decide +kernel
theorem dX7_init_57 : decode cX7_init 57 = .ok (.if_icmp .ne 8, 3) := by decide +kernel
theorem dX7_init_60 : decode cX7_init 60 = .ok (.bipush 10, 2) := by decide +kernel
theorem dX7_init_62 : decode cX7_init 62 = .ok (.goto 5, 3) := by decide +kernel
theorem dX7_init_65 : decode cX7_init 65 = .ok (.bipush 14, 2) := by decide +kernel
theorem dX7_init_67 : decode cX7_init 67 = .ok (.iastore, 1) := by decide +kernel
theorem dX7_init_68 : decode cX7_init 68 = .ok (.aload_n 0, 1) := by decide +kernel
theorem dX7_init_69 : decode cX7_init 69 = .ok (.getfield 7, 3) := by decide +kernel
theorem dX7_init_72 : decode cX7_init 72 = .ok (.bipush 92, 2) := by decide +kernel
theorem dX7_init_74 : decode cX7_init 74 = .ok (.iload_n 1, 1) := by decide +kernel
theorem dX7_init_75 : decode cX7_init 75 = .ok (.iadd, 1) := by decide +kernel
theorem dX7_init_76 : decode cX7_init 76 = .ok (.iconst (-1), 1) := by decide +kernel
theorem dX7_init_77 : decode cX7_init 77 = .ok (.iastore, 1) := by decide +kernel
theorem dX7_init_78 : decode cX7_init 78 = .ok (.iinc 1 1, 3) := by decide +kernel
theorem dX7_init_81 : decode cX7_init 81 = .ok (.goto (-57), 3) := by decide +kernel
theorem dX7_init_84 : decode cX7_init 84 = .ok (.iconst 0, 1) := by decide +kernel
theorem dX7_init_85 : decode cX7_init 85 = .ok (.istore_n 1, 1) := by decide +kernel
theorem dX7_init_86 : decode cX7_init 86 = .ok (.iload_n 1, 1) := by decide +kernel
theorem dX7_init_87 : decode cX7_init 87 = .ok (.iconst 3, 1) := by decide +kernel
theorem dX7_init_88 : decode cX7_init 88 = .ok (.if_icmp .ge 21, 3) := by decide +kernel
theorem dX7_init_91 : decode cX7_init 91 = .ok (.aload_n 0, 1) := by decide +kernel
theorem dX7_init_92 : decode cX7_init 92 = .ok (.getfield 7, 3) := by decide +kernel
theorem dX7_init_95 : decode cX7_init 95 = .ok (.bipush 76, 2) := by decide +kernel
theorem dX7_init_97 : decode cX7_init 97 = .ok (.iload_n 1, 1) := by decide +kernel
theorem dX7_init_98 : decode cX7_init 98 = .ok (.iadd, 1) := by decide +kernel
theorem dX7_init_99 : decode cX7_init 99 = .ok (.sipush 1150, 3) := by decide +kernel
theorem dX7_init_102 : decode cX7_init 102 = .ok (.iastore, 1) := by decide +kernel
theorem dX7_init_103 : decode cX7_init 103 = .ok (.iinc 1 1, 3) := by decide +kernel
theorem dX7_init_106 : decode cX7_init 106 = .ok (.goto (-20), 3) := by decide +kernel
theorem dX7_init_109 : decode cX7_init 109 = .ok (.aload_n 0, 1) := by decide +kernel
theorem dX7_init_110 : decode cX7_init 110 = .ok (.getfield 7, 3) := by decide +kernel
theorem dX7_init_113 : decode cX7_init 113 = .ok (.bipush 100, 2) := by decide +kernel
theorem dX7_init_115 : decode cX7_init 115 = .ok (.iconst 3, 1) := by decide +kernel
theorem dX7_init_116 : decode cX7_init 116 = .ok (.iastore, 1) := by decide +kernel
theorem dX7_init_117 : decode cX7_init 117 = .ok (.aload_n 0, 1) := by decide +kernel
theorem dX7_init_118 : decode cX7_init 118 = .ok (.getfield 7, 3) := by decide +kernel
theorem dX7_init_121 : decode cX7_init 121 = .ok (.bipush 101, 2) := by decide +kernel
theorem dX7_init_123 : decode cX7_init 123 = .ok (.bipush 11, 2) := by decide +kernel
theorem dX7_init_125 : decode cX7_init 125 = .ok (.iastore, 1) := by decide +kernel
theorem dX7_init_126 : decode cX7_init 126 = .ok (.aload_n 0, 1) := by decide +kernel
theorem dX7_init_127 : decode cX7_init 127 = .ok (.getfield 7, 3) := by decide +kernel
theorem dX7_init_130 : decode cX7_init 130 = .ok (.bipush 102, 2) := by decide +kernel
theorem dX7_init_132 : decode cX7_init 132 = .ok (.iconst (-1), 1) := by decide +kernel
theorem dX7_init_133 : decode cX7_init 133 = .ok (.iastore, 1) := by decide +kernel
theorem dX7_init_134 : decode cX7_init 134 = .ok (.aload_n 0, 1) := by decide +kernel
theorem dX7_init_135 : decode cX7_init 135 = .ok (.getfield 7, 3) := by decide +kernel
theorem dX7_init_138 : decode cX7_init 138 = .ok (.bipush 103, 2) := by decide +kernel
theorem dX7_init_140 : decode cX7_init 140 = .ok (.iconst (-1), 1) := by decide +kernel
theorem dX7_init_141 : decode cX7_init 141 = .ok (.iastore, 1) := by decide +kernel
theorem dX7_init_142 : decode cX7_init 142 = .ok (.aload_n 0, 1) := by decide +kernel
theorem dX7_init_143 : decode cX7_init 143 = .ok (.getfield 7, 3) := by decide +kernel
theorem dX7_init_146 : decode cX7_init 146 = .ok (.sipush 148, 3) := by decide +kernel
theorem dX7_init_149 : decode cX7_init 149 = .ok (.bipush 12, 2) := by decide +kernel
theorem dX7_init_151 : decode cX7_init 151 = .ok (.iastore, 1) := by decide +kernel
theorem dX7_init_152 : decode cX7_init 152 = .ok (.return_, 1) := by decide +kernel
theorem dX7_in_0 : decode cX7_in 0 = .ok (.iload_n 0, 1) := by decide +kernel
theorem dX7_in_1 : decode cX7_in 1 = .ok (.iload_n 1, 1) := by decide +kernel
theorem dX7_in_2 : decode cX7_in 2 = .ok (.if_icmp .lt 12, 3) := by decide +kernel
theorem dX7_in_5 : decode cX7_in 5 = .ok (.iload_n 0, 1) := by decide +kernel
theorem dX7_in_6 : decode cX7_in 6 = .ok (.iload_n 2, 1) := by decide +kernel
theorem dX7_in_7 : decode cX7_in 7 = .ok (.if_icmp .gt 7, 3) := by decide +kernel
theorem dX7_in_10 : decode cX7_in 10 = .ok (.iconst 1, 1) := by decide +kernel
theorem dX7_in_11 : decode cX7_in 11 = .ok (.goto 4, 3) := by decide +kernel
theorem dX7_in_14 : decode cX7_in 14 = .ok (.iconst 0, 1) := by decide +kernel
theorem dX7_in_15 : decode cX7_in 15 = .ok (.ireturn, 1) := by decide +kernel
theorem dX7_fed_0 : decode cX7_fed 0 = .ok (.aload_n 0, 1) := by decide +kernel
theorem dX7_fed_1 : decode cX7_fed 1 = .ok (.getfield 7, 3) := by decide +kernel
theorem dX7_fed_4 : decode cX7_fed 4 = .ok (.sipush 149, 3) := by decide +kernel
theorem dX7_fed_7 : decode cX7_fed 7 = .ok (.iaload, 1) := by decide +kernel
theorem dX7_fed_8 : decode cX7_fed 8 = .ok (.istore_n 2, 1) := by decide +kernel
theorem dX7_fed_9 : decode cX7_fed 9 = .ok (.aload_n 0, 1) := by decide +kernel
theorem dX7_fed_10 : decode cX7_fed 10 = .ok (.getfield 7, 3) := by decide +kernel
theorem dX7_fed_13 : decode cX7_fed 13 = .ok (.sipush 149, 3) := by decide +kernel
theorem dX7_fed_16 : decode cX7_fed 16 = .ok (.iload_n 1, 1) := by decide +kernel
theorem dX7_fed_17 : decode cX7_fed 17 = .ok (.ifCond .eq 7, 3) := by decide +kernel
theorem dX7_fed_20 : decode cX7_fed 20 = .ok (.iconst 1, 1) := by decide +kernel
theorem dX7_fed_21 : decode cX7_fed 21 = .ok (.goto 4, 3) := by decide +kernel
theorem dX7_fed_24 : decode cX7_fed 24 = .ok (.iconst 0, 1) := by decide +kernel
theorem dX7_fed_25 : decode cX7_fed 25 = .ok (.iastore, 1) := by decide +kernel
theorem dX7_fed_26 : decode cX7_fed 26 = .ok (.iload_n 2, 1) := by decide +kernel
theorem dX7_fed_27 : decode cX7_fed 27 = .ok (.ireturn, 1) := by decide +kernel
theorem dX7_limit_0 : decode cX7_limit 0 = .ok (.iload_n 1, 1) := by decide +kernel
theorem dX7_limit_1 : decode cX7_limit 1 = .ok (.iconst 0, 1) := by decide +kernel
theorem dX7_limit_2 : decode cX7_limit 2 = .ok (.bipush 30, 2) := by decide +kernel
theorem dX7_limit_4 : decode cX7_limit 4 = .ok (.invokestatic 16, 3) := by decide +kernel
theorem dX7_limit_7 : decode cX7_limit 7 = .ok (.ifCond .ne 5, 3) := by decide +kernel
theorem dX7_limit_10 : decode cX7_limit 10 = .ok (.iconst (-1), 1) := by decide +kernel
theorem dX7_limit_11 : decode cX7_limit 11 = .ok (.ireturn, 1) := by decide +kernel
theorem dX7_limit_12 : decode cX7_limit 12 = .ok (.aload_n 0, 1) := by decide +kernel
theorem dX7_limit_13 : decode cX7_limit 13 = .ok (.getfield 7, 3) := by decide +kernel
theorem dX7_limit_16 : decode cX7_limit 16 = .ok (.sipush 148, 3) := by decide +kernel
theorem dX7_limit_19 : decode cX7_limit 19 = .ok (.iaload, 1) := by decide +kernel
theorem dX7_limit_20 : decode cX7_limit 20 = .ok (.istore_n 2, 1) := by decide +kernel
theorem dX7_limit_21 : decode cX7_limit 21 = .ok (.aload_n 0, 1) := by decide +kernel
theorem dX7_limit_22 : decode cX7_limit 22 = .ok (.getfield 7, 3) := by decide +kernel
theorem dX7_limit_25 : decode cX7_limit 25 = .ok (.sipush 148, 3) := by decide +kernel
theorem dX7_limit_28 : decode cX7_limit 28 = .ok (.iload_n 1, 1) := by decide +kernel
theorem dX7_limit_29 : decode cX7_limit 29 = .ok (.iastore, 1) := by decide +kernel
theorem dX7_limit_30 : decode cX7_limit 30 = .ok (.iload_n 2, 1) := by decide +kernel
theorem dX7_limit_31 : decode cX7_limit 31 = .ok (.ireturn, 1) := by decide +kernel
theorem dX7_sum_0 : decode cX7_sum 0 = .ok (.aload_n 0, 1) := by decide +kernel
theorem dX7_sum_1 : decode cX7_sum 1 = .ok (.getfield 7, 3) := by decide +kernel
theorem dX7_sum_4 : decode cX7_sum 4 = .ok (.iload_n 1, 1) := by decide +kernel
theorem dX7_sum_5 : decode cX7_sum 5 = .ok (.iaload, 1) := by decide +kernel
theorem dX7_sum_6 : decode cX7_sum 6 = .ok (.aload_n 0, 1) := by decide +kernel
theorem dX7_sum_7 : decode cX7_sum 7 = .ok (.getfield 7, 3) := by decide +kernel
theorem dX7_sum_10 : decode cX7_sum 10 = .ok (.iload_n 1, 1) := by decide +kernel
theorem dX7_sum_11 : decode cX7_sum 11 = .ok (.iconst 1, 1) := by decide +kernel
theorem dX7_sum_12 : decode cX7_sum 12 = .ok (.iadd, 1) := by decide +kernel
theorem dX7_sum_13 : decode cX7_sum 13 = .ok (.iaload, 1) := by decide +kernel
theorem dX7_sum_14 : decode cX7_sum 14 = .ok (.iadd, 1) := by decide +kernel
theorem dX7_sum_15 : decode cX7_sum 15 = .ok (.aload_n 0, 1) := by decide +kernel
theorem dX7_sum_16 : decode cX7_sum 16 = .ok (.getfield 7, 3) := by decide +kernel
theorem dX7_sum_19 : decode cX7_sum 19 = .ok (.iload_n 1, 1) := by decide +kernel
theorem dX7_sum_20 : decode cX7_sum 20 = .ok (.iconst 2, 1) := by decide +kernel
theorem dX7_sum_21 : decode cX7_sum 21 = .ok (.iadd, 1) := by decide +kernel
theorem dX7_sum_22 : decode cX7_sum 22 = .ok (.iaload, 1) := by decide +kernel
theorem dX7_sum_23 : decode cX7_sum 23 = .ok (.iadd, 1) := by decide +kernel
theorem dX7_sum_24 : decode cX7_sum 24 = .ok (.aload_n 0, 1) := by decide +kernel
theorem dX7_sum_25 : decode cX7_sum 25 = .ok (.getfield 7, 3) := by decide +kernel
theorem dX7_sum_28 : decode cX7_sum 28 = .ok (.iload_n 1, 1) := by decide +kernel
theorem dX7_sum_29 : decode cX7_sum 29 = .ok (.iconst 3, 1) := by decide +kernel
theorem dX7_sum_30 : decode cX7_sum 30 = .ok (.iadd, 1) := by decide +kernel
theorem dX7_sum_31 : decode cX7_sum 31 = .ok (.iaload, 1) := by decide +kernel
theorem dX7_sum_32 : decode cX7_sum 32 = .ok (.iadd, 1) := by decide +kernel
theorem dX7_sum_33 : decode cX7_sum 33 = .ok (.ireturn, 1) := by decide +kernel
theorem dX7_blow_0 : decode cX7_blow 0 = .ok (.iload_n 1, 1) := by decide +kernel
theorem dX7_blow_1 : decode cX7_blow 1 = .ok (.iconst 0, 1) := by decide +kernel
theorem dX7_blow_2 : decode cX7_blow 2 = .ok (.iconst 2, 1) := by decide +kernel
theorem dX7_blow_3 : decode cX7_blow 3 = .ok (.invokestatic 16, 3) := by decide +kernel
theorem dX7_blow_6 : decode cX7_blow 6 = .ok (.ifCond .ne 5, 3) := by decide +kernel
theorem dX7_blow_9 : decode cX7_blow 9 = .ok (.iconst (-1), 1) := by decide +kernel
theorem dX7_blow_10 : decode cX7_blow 10 = .ok (.ireturn, 1) := by decide +kernel
theorem dX7_blow_11 : decode cX7_blow 11 = .ok (.iload_n 2, 1) := by decide +kernel
theorem dX7_blow_12 : decode cX7_blow 12 = .ok (.ifCond .eq 18, 3) := by decide +kernel
theorem dX7_blow_15 : decode cX7_blow 15 = .ok (.aload_n 0, 1) := by decide +kernel
theorem dX7_blow_16 : decode cX7_blow 16 = .ok (.iconst 4, 1) := by decide +kernel
theorem dX7_blow_17 : decode cX7_blow 17 = .ok (.iconst 4, 1) := by decide +kernel
theorem dX7_blow_18 : decode cX7_blow 18 = .ok (.iload_n 1, 1) := by decide +kernel
theorem dX7_blow_19 : decode cX7_blow 19 = .ok (.imul, 1) := by decide +kernel
theorem dX7_blow_20 : decode cX7_blow 20 = .ok (.iadd, 1) := by decide +kernel
theorem dX7_blow_21 : decode cX7_blow 21 = .ok (.invokevirtual 20, 3) := by decide +kernel
theorem dX7_blow_24 : decode cX7_blow 24 = .ok (.ifCond .ne 6, 3) := by decide +kernel
theorem dX7_blow_27 : decode cX7_blow 27 = .ok (.bipush (-2), 2) := by decide +kernel
theorem dX7_blow_29 : decode cX7_blow 29 = .ok (.ireturn, 1) := by decide +kernel
theorem dX7_blow_30 : decode cX7_blow 30 = .ok (.aload_n 0, 1) := by decide +kernel
theorem dX7_blow_31 : decode cX7_blow 31 = .ok (.getfield 7, 3) := by decide +kernel
theorem dX7_blow_34 : decode cX7_blow 34 = .ok (.bipush 79, 2) := by decide +kernel
theorem dX7_blow_36 : decode cX7_blow 36 = .ok (.iload_n 1, 1) := by decide +kernel
theorem dX7_blow_37 : decode cX7_blow 37 = .ok (.iadd, 1) := by decide +kernel
theorem dX7_blow_38 : decode cX7_blow 38 = .ok (.iaload, 1) := by decide +kernel
theorem dX7_blow_39 : decode cX7_blow 39 = .ok (.istore_n 3, 1) := by decide +kernel
theorem dX7_blow_40 : decode cX7_blow 40 = .ok (.aload_n 0, 1) := by decide +kernel
theorem dX7_blow_41 : decode cX7_blow 41 = .ok (.getfield 7, 3) := by decide +kernel
theorem dX7_blow_44 : decode cX7_blow 44 = .ok (.bipush 79, 2) := by decide +kernel
theorem dX7_blow_46 : decode cX7_blow 46 = .ok (.iload_n 1, 1) := by decide +kernel
theorem dX7_blow_47 : decode cX7_blow 47 = .ok (.iadd, 1) := by decide +kernel
theorem dX7_blow_48 : decode cX7_blow 48 = .ok (.iload_n 2, 1) := by decide +kernel
theorem dX7_blow_49 : decode cX7_blow 49 = .ok (.ifCond .eq 7, 3) := by decide +kernel
theorem dX7_blow_52 : decode cX7_blow 52 = .ok (.iconst 1, 1) := by decide +kernel
theorem dX7_blow_53 : decode cX7_blow 53 = .ok (.goto 4, 3) := by decide +kernel
theorem dX7_blow_56 : decode cX7_blow 56 = .ok (.iconst 0, 1) := by decide +kernel
theorem dX7_blow_57 : decode cX7_blow 57 = .ok (.iastore, 1) := by decide +kernel
theorem dX7_blow_58 : decode cX7_blow 58 = .ok (.iload_n 3, 1) := by decide +kernel
theorem dX7_blow_59 : decode cX7_blow 59 = .ok (.ireturn, 1) := by decide +kernel
theorem dX7_cold_0 : decode cX7_cold 0 = .ok (.iload_n 1, 1) := by decide +kernel
theorem dX7_cold_1 : decode cX7_cold 1 = .ok (.iconst 0, 1) := by decide +kernel
theorem dX7_cold_2 : decode cX7_cold 2 = .ok (.iconst 2, 1) := by decide +kernel
theorem dX7_cold_3 : decode cX7_cold 3 = .ok (.invokestatic 16, 3) := by decide +kernel
theorem dX7_cold_6 : decode cX7_cold 6 = .ok (.ifCond .eq 13, 3) := by decide +kernel
theorem dX7_cold_9 : decode cX7_cold 9 = .ok (.iload_n 2, 1) := by decide +kernel
theorem dX7_cold_10 : decode cX7_cold 10 = .ok (.iconst 1, 1) := by decide +kernel
theorem dX7_cold_11 : decode cX7_cold 11 = .ok (.bipush 50, 2) := by decide +kernel
theorem dX7_cold_13 : decode cX7_cold 13 = .ok (.invokestatic 16, 3) := by decide +kernel
theorem dX7_cold_16 : decode cX7_cold 16 = .ok (.ifCond .ne 5, 3) := by decide +kernel
theorem dX7_cold_19 : decode cX7_cold 19 = .ok (.iconst (-1), 1) := by decide +kernel
theorem dX7_cold_20 : decode cX7_cold 20 = .ok (.ireturn, 1) := by decide +kernel
theorem dX7_cold_21 : decode cX7_cold 21 = .ok (.aload_n 0, 1) := by decide +kernel
theorem dX7_cold_22 : decode cX7_cold 22 = .ok (.iconst 4, 1) := by decide +kernel
theorem dX7_cold_23 : decode cX7_cold 23 = .ok (.iconst 4, 1) := by decide +kernel
theorem dX7_cold_24 : decode cX7_cold 24 = .ok (.iload_n 1, 1) := by decide +kernel
theorem dX7_cold_25 : decode cX7_cold 25 = .ok (.imul, 1) := by decide +kernel
theorem dX7_cold_26 : decode cX7_cold 26 = .ok (.iadd, 1) := by decide +kernel
theorem dX7_cold_27 : decode cX7_cold 27 = .ok (.invokevirtual 20, 3) := by decide +kernel
theorem dX7_cold_30 : decode cX7_cold 30 = .ok (.istore_n 3, 1) := by decide +kernel
theorem dX7_cold_31 : decode cX7_cold 31 = .ok (.iload_n 3, 1) := by decide +kernel
theorem dX7_cold_32 : decode cX7_cold 32 = .ok (.ifCond .eq 12, 3) := by decide +kernel
theorem dX7_cold_35 : decode cX7_cold 35 = .ok (.iload_n 3, 1) := by decide +kernel
theorem dX7_cold_36 : decode cX7_cold 36 = .ok (.iload_n 2, 1) := by decide +kernel
theorem dX7_cold_37 : decode cX7_cold 37 = .ok (.iadd, 1) := by decide +kernel
theorem dX7_cold_38 : decode cX7_cold 38 = .ok (.sipush 300, 3) := by decide +kernel
theorem dX7_cold_41 : decode cX7_cold 41 = .ok (.if_icmp .le 6, 3) := by decide +kernel
theorem dX7_cold_44 : decode cX7_cold 44 = .ok (.bipush (-2), 2) := by decide +kernel
theorem dX7_cold_46 : decode cX7_cold 46 = .ok (.ireturn, 1) := by decide +kernel
theorem dX7_cold_47 : decode cX7_cold 47 = .ok (.aload_n 0, 1) := by decide +kernel
theorem dX7_cold_48 : decode cX7_cold 48 = .ok (.getfield 7, 3) := by decide +kernel
theorem dX7_cold_51 : decode cX7_cold 51 = .ok (.bipush 76, 2) := by decide +kernel
theorem dX7_cold_53 : decode cX7_cold 53 = .ok (.iload_n 1, 1) := by decide +kernel
theorem dX7_cold_54 : decode cX7_cold 54 = .ok (.iadd, 1) := by decide +kernel
theorem dX7_cold_55 : decode cX7_cold 55 = .ok (.aload_n 0, 1) := by decide +kernel
theorem dX7_cold_56 : decode cX7_cold 56 = .ok (.getfield 7, 3) := by decide +kernel
theorem dX7_cold_59 : decode cX7_cold 59 = .ok (.bipush 76, 2) := by decide +kernel
theorem dX7_cold_61 : decode cX7_cold 61 = .ok (.iload_n 1, 1) := by decide +kernel
theorem dX7_cold_62 : decode cX7_cold 62 = .ok (.iadd, 1) := by decide +kernel
theorem dX7_cold_63 : decode cX7_cold 63 = .ok (.iaload, 1) := by decide +kernel
theorem dX7_cold_64 : decode cX7_cold 64 = .ok (.iload_n 3, 1) := by decide +kernel
theorem dX7_cold_65 : decode cX7_cold 65 = .ok (.imul, 1) := by decide +kernel
theorem dX7_cold_66 : decode cX7_cold 66 = .ok (.iload_n 3, 1) := by decide +kernel
theorem dX7_cold_67 : decode cX7_cold 67 = .ok (.iload_n 2, 1) := by decide +kernel
theorem dX7_cold_68 : decode cX7_cold 68 = .ok (.iadd, 1) := by decide +kernel
theorem dX7_cold_69 : decode cX7_cold 69 = .ok (.idiv, 1) := by decide +kernel
theorem dX7_cold_70 : decode cX7_cold 70 = .ok (.iastore, 1) := by decide +kernel
theorem dX7_cold_71 : decode cX7_cold 71 = .ok (.aload_n 0, 1) := by decide +kernel
theorem dX7_cold_72 : decode cX7_cold 72 = .ok (.getfield 7, 3) := by decide +kernel
theorem dX7_cold_75 : decode cX7_cold 75 = .ok (.iconst 4, 1) := by decide +kernel
theorem dX7_cold_76 : decode cX7_cold 76 = .ok (.iconst 4, 1) := by decide +kernel
theorem dX7_cold_77 : decode cX7_cold 77 = .ok (.iload_n 1, 1) := by decide +kernel
theorem dX7_cold_78 : decode cX7_cold 78 = .ok (.imul, 1) := by decide +kernel
theorem dX7_cold_79 : decode cX7_cold 79 = .ok (.iadd, 1) := by decide +kernel
theorem dX7_cold_80 : decode cX7_cold 80 = .ok (.dup2, 1) := by decide +kernel
theorem dX7_cold_81 : decode cX7_cold 81 = .ok (.iaload, 1) := by decide +kernel
theorem dX7_cold_82 : decode cX7_cold 82 = .ok (.iload_n 2, 1) := by decide +kernel
theorem dX7_cold_83 : decode cX7_cold 83 = .ok (.iadd, 1) := by decide +kernel
theorem dX7_cold_84 : decode cX7_cold 84 = .ok (.iastore, 1) := by decide +kernel
theorem dX7_cold_85 : decode cX7_cold 85 = .ok (.aload_n 0, 1) := by decide +kernel
theorem dX7_cold_86 : decode cX7_cold 86 = .ok (.getfield 7, 3) := by decide +kernel
theorem dX7_cold_89 : decode cX7_cold 89 = .ok (.bipush 64, 2) := by decide +kernel
theorem dX7_cold_91 : decode cX7_cold 91 = .ok (.dup2, 1) := by decide +kernel
theorem dX7_cold_92 : decode cX7_cold 92 = .ok (.iaload, 1) := by decide +kernel
theorem dX7_cold_93 : decode cX7_cold 93 = .ok (.iload_n 2, 1) := by decide +kernel
theorem dX7_cold_94 : decode cX7_cold 94 = .ok (.iadd, 1) := by decide +kernel
theorem dX7_cold_95 : decode cX7_cold 95 = .ok (.iastore, 1) := by decide +kernel
theorem dX7_cold_96 : decode cX7_cold 96 = .ok (.aload_n 0, 1) := by decide +kernel
theorem dX7_cold_97 : decode cX7_cold 97 = .ok (.getfield 7, 3) := by decide +kernel
theorem dX7_cold_100 : decode cX7_cold 100 = .ok (.bipush 76, 2) := by decide +kernel
theorem dX7_cold_102 : decode cX7_cold 102 = .ok (.iload_n 1, 1) := by decide +kernel
theorem dX7_cold_103 : decode cX7_cold 103 = .ok (.iadd, 1) := by decide +kernel
theorem dX7_cold_104 : decode cX7_cold 104 = .ok (.iaload, 1) := by decide +kernel
theorem dX7_cold_105 : decode cX7_cold 105 = .ok (.ireturn, 1) := by decide +kernel
theorem dX7_order_0 : decode cX7_order 0 = .ok (.iload_n 1, 1) := by decide +kernel
theorem dX7_order_1 : decode cX7_order 1 = .ok (.iconst 0, 1) := by decide +kernel
theorem dX7_order_2 : decode cX7_order 2 = .ok (.iconst 1, 1) := by decide +kernel
theorem dX7_order_3 : decode cX7_order 3 = .ok (.invokestatic 16, 3) := by decide +kernel
theorem dX7_order_6 : decode cX7_order 6 = .ok (.ifCond .eq 27, 3) := by decide +kernel
theorem dX7_order_9 : decode cX7_order 9 = .ok (.iload_n 2, 1) := by decide +kernel
theorem dX7_order_10 : decode cX7_order 10 = .ok (.iconst 0, 1) := by decide +kernel
theorem dX7_order_11 : decode cX7_order 11 = .ok (.bipush 7, 2) := by decide +kernel
theorem dX7_order_13 : decode cX7_order 13 = .ok (.invokestatic 16, 3) := by decide +kernel
theorem dX7_order_16 : decode cX7_order 16 = .ok (.ifCond .eq 17, 3) := by decide +kernel
theorem dX7_order_19 : decode cX7_order 19 = .ok (.iload_n 2, 1) := by decide +kernel
theorem dX7_order_20 : decode cX7_order 20 = .ok (.ifCond .ne 15, 3) := by decide +kernel
theorem dX7_order_23 : decode cX7_order 23 = .ok (.iload_n 3, 1) := by decide +kernel
theorem dX7_order_24 : decode cX7_order 24 = .ok (.iconst 0, 1) := by decide +kernel
theorem dX7_order_25 : decode cX7_order 25 = .ok (.bipush 15, 2) := by decide +kernel
theorem dX7_order_27 : decode cX7_order 27 = .ok (.invokestatic 16, 3) := by decide +kernel
theorem dX7_order_30 : decode cX7_order 30 = .ok (.ifCond .ne 5, 3) := by decide +kernel
theorem dX7_order_33 : decode cX7_order 33 = .ok (.iconst (-1), 1) := by decide +kernel
theorem dX7_order_34 : decode cX7_order 34 = .ok (.ireturn, 1) := by decide +kernel
theorem dX7_order_35 : decode cX7_order 35 = .ok (.aload_n 0, 1) := by decide +kernel
theorem dX7_order_36 : decode cX7_order 36 = .ok (.getfield 7, 3) := by decide +kernel
theorem dX7_order_39 : decode cX7_order 39 = .ok (.bipush 104, 2) := by decide +kernel
theorem dX7_order_41 : decode cX7_order 41 = .ok (.iload_n 1, 1) := by decide +kernel
theorem dX7_order_42 : decode cX7_order 42 = .ok (.iadd, 1) := by decide +kernel
theorem dX7_order_43 : decode cX7_order 43 = .ok (.iaload, 1) := by decide +kernel
theorem dX7_order_44 : decode cX7_order 44 = .ok (.bipush 8, 2) := by decide +kernel
theorem dX7_order_46 : decode cX7_order 46 = .ok (.if_icmp .ne 6, 3) := by decide +kernel
theorem dX7_order_49 : decode cX7_order 49 = .ok (.bipush (-3), 2) := by decide +kernel
theorem dX7_order_51 : decode cX7_order 51 = .ok (.ireturn, 1) := by decide +kernel
theorem dX7_order_52 : decode cX7_order 52 = .ok (.aload_n 0, 1) := by decide +kernel
theorem dX7_order_53 : decode cX7_order 53 = .ok (.getfield 7, 3) := by decide +kernel
theorem dX7_order_56 : decode cX7_order 56 = .ok (.bipush 108, 2) := by decide +kernel
theorem dX7_order_58 : decode cX7_order 58 = .ok (.bipush 16, 2) := by decide +kernel
theorem dX7_order_60 : decode cX7_order 60 = .ok (.iload_n 1, 1) := by decide +kernel
theorem dX7_order_61 : decode cX7_order 61 = .ok (.imul, 1) := by decide +kernel
theorem dX7_order_62 : decode cX7_order 62 = .ok (.iadd, 1) := by decide +kernel
theorem dX7_order_63 : decode cX7_order 63 = .ok (.iconst 2, 1) := by decide +kernel
theorem dX7_order_64 : decode cX7_order 64 = .ok (.aload_n 0, 1) := by decide +kernel
theorem dX7_order_65 : decode cX7_order 65 = .ok (.getfield 7, 3) := by decide +kernel
theorem dX7_order_68 : decode cX7_order 68 = .ok (.bipush 104, 2) := by decide +kernel
theorem dX7_order_70 : decode cX7_order 70 = .ok (.iload_n 1, 1) := by decide +kernel
theorem dX7_order_71 : decode cX7_order 71 = .ok (.iadd, 1) := by decide +kernel
theorem dX7_order_72 : decode cX7_order 72 = .ok (.iaload, 1) := by decide +kernel
theorem dX7_order_73 : decode cX7_order 73 = .ok (.imul, 1) := by decide +kernel
theorem dX7_order_74 : decode cX7_order 74 = .ok (.iadd, 1) := by decide +kernel
theorem dX7_order_75 : decode cX7_order 75 = .ok (.iload_n 2, 1) := by decide +kernel
theorem dX7_order_76 : decode cX7_order 76 = .ok (.iastore, 1) := by decide +kernel
theorem dX7_order_77 : decode cX7_order 77 = .ok (.aload_n 0, 1) := by decide +kernel
theorem dX7_order_78 : decode cX7_order 78 = .ok (.getfield 7, 3) := by decide +kernel
theorem dX7_order_81 : decode cX7_order 81 = .ok (.bipush 108, 2) := by decide +kernel
theorem dX7_order_83 : decode cX7_order 83 = .ok (.bipush 16, 2) := by decide +kernel
theorem dX7_order_85 : decode cX7_order 85 = .ok (.iload_n 1, 1) := by decide +kernel
theorem dX7_order_86 : decode cX7_order 86 = .ok (.imul, 1) := by decide +kernel
theorem dX7_order_87 : decode cX7_order 87 = .ok (.iadd, 1) := by decide +kernel
theorem dX7_order_88 : decode cX7_order 88 = .ok (.iconst 2, 1) := by decide +kernel
theorem dX7_order_89 : decode cX7_order 89 = .ok (.aload_n 0, 1) := by decide +kernel
theorem dX7_order_90 : decode cX7_order 90 = .ok (.getfield 7, 3) := by decide +kernel
theorem dX7_order_93 : decode cX7_order 93 = .ok (.bipush 104, 2) := by decide +kernel
theorem dX7_order_95 : decode cX7_order 95 = .ok (.iload_n 1, 1) := by decide +kernel
theorem dX7_order_96 : decode cX7_order 96 = .ok (.iadd, 1) := by decide +kernel
theorem dX7_order_97 : decode cX7_order 97 = .ok (.iaload, 1) := by decide +kernel
theorem dX7_order_98 : decode cX7_order 98 = .ok (.imul, 1) := by decide +kernel
theorem dX7_order_99 : decode cX7_order 99 = .ok (.iadd, 1) := by decide +kernel
theorem dX7_order_100 : decode cX7_order 100 = .ok (.iconst 1, 1) := by decide +kernel
theorem dX7_order_101 : decode cX7_order 101 = .ok (.iadd, 1) := by decide +kernel
theorem dX7_order_102 : decode cX7_order 102 = .ok (.iload_n 3, 1) := by decide +kernel
theorem dX7_order_103 : decode cX7_order 103 = .ok (.iastore, 1) := by decide +kernel
theorem dX7_order_104 : decode cX7_order 104 = .ok (.aload_n 0, 1) := by decide +kernel
theorem dX7_order_105 : decode cX7_order 105 = .ok (.getfield 7, 3) := by decide +kernel
theorem dX7_order_108 : decode cX7_order 108 = .ok (.bipush 104, 2) := by decide +kernel
theorem dX7_order_110 : decode cX7_order 110 = .ok (.iload_n 1, 1) := by decide +kernel
theorem dX7_order_111 : decode cX7_order 111 = .ok (.iadd, 1) := by decide +kernel
theorem dX7_order_112 : decode cX7_order 112 = .ok (.dup2, 1) := by decide +kernel
theorem dX7_order_113 : decode cX7_order 113 = .ok (.iaload, 1) := by decide +kernel
theorem dX7_order_114 : decode cX7_order 114 = .ok (.iconst 1, 1) := by decide +kernel
theorem dX7_order_115 : decode cX7_order 115 = .ok (.iadd, 1) := by decide +kernel
theorem dX7_order_116 : decode cX7_order 116 = .ok (.iastore, 1) := by decide +kernel
theorem dX7_order_117 : decode cX7_order 117 = .ok (.aload_n 0, 1) := by decide +kernel
theorem dX7_order_118 : decode cX7_order 118 = .ok (.getfield 7, 3) := by decide +kernel
theorem dX7_order_121 : decode cX7_order 121 = .ok (.bipush 104, 2) := by decide +kernel
theorem dX7_order_123 : decode cX7_order 123 = .ok (.iload_n 1, 1) := by decide +kernel
theorem dX7_order_124 : decode cX7_order 124 = .ok (.iadd, 1) := by decide +kernel
theorem dX7_order_125 : decode cX7_order 125 = .ok (.iaload, 1) := by decide +kernel
theorem dX7_order_126 : decode cX7_order 126 = .ok (.ireturn, 1) := by decide +kernel
theorem dX7_drop_0 : decode cX7_drop 0 = .ok (.iload_n 1, 1) := by decide +kernel
theorem dX7_drop_1 : decode cX7_drop 1 = .ok (.iconst 0, 1) := by decide +kernel
theorem dX7_drop_2 : decode cX7_drop 2 = .ok (.iconst 1, 1) := by decide +kernel
theorem dX7_drop_3 : decode cX7_drop 3 = .ok (.invokestatic 16, 3) := by decide +kernel
theorem dX7_drop_6 : decode cX7_drop 6 = .ok (.ifCond .ne 5, 3) := by decide +kernel
theorem dX7_drop_9 : decode cX7_drop 9 = .ok (.iconst (-1), 1) := by decide +kernel
theorem dX7_drop_10 : decode cX7_drop 10 = .ok (.ireturn, 1) := by decide +kernel
theorem dX7_drop_11 : decode cX7_drop 11 = .ok (.aload_n 0, 1) := by decide +kernel
theorem dX7_drop_12 : decode cX7_drop 12 = .ok (.getfield 7, 3) := by decide +kernel
theorem dX7_drop_15 : decode cX7_drop 15 = .ok (.bipush 104, 2) := by decide +kernel
theorem dX7_drop_17 : decode cX7_drop 17 = .ok (.iload_n 1, 1) := by decide +kernel
theorem dX7_drop_18 : decode cX7_drop 18 = .ok (.iadd, 1) := by decide +kernel
theorem dX7_drop_19 : decode cX7_drop 19 = .ok (.iaload, 1) := by decide +kernel
theorem dX7_drop_20 : decode cX7_drop 20 = .ok (.istore_n 2, 1) := by decide +kernel
theorem dX7_drop_21 : decode cX7_drop 21 = .ok (.aload_n 0, 1) := by decide +kernel
theorem dX7_drop_22 : decode cX7_drop 22 = .ok (.getfield 7, 3) := by decide +kernel
theorem dX7_drop_25 : decode cX7_drop 25 = .ok (.bipush 104, 2) := by decide +kernel
theorem dX7_drop_27 : decode cX7_drop 27 = .ok (.iload_n 1, 1) := by decide +kernel
theorem dX7_drop_28 : decode cX7_drop 28 = .ok (.iadd, 1) := by decide +kernel
theorem dX7_drop_29 : decode cX7_drop 29 = .ok (.iconst 0, 1) := by decide +kernel
theorem dX7_drop_30 : decode cX7_drop 30 = .ok (.iastore, 1) := by decide +kernel
theorem dX7_drop_31 : decode cX7_drop 31 = .ok (.iload_n 2, 1) := by decide +kernel
theorem dX7_drop_32 : decode cX7_drop 32 = .ok (.ireturn, 1) := by decide +kernel
theorem dX7_feeds_0 : decode cX7_feeds 0 = .ok (.aload_n 0, 1) := by decide +kernel
theorem dX7_feeds_1 : decode cX7_feeds 1 = .ok (.getfield 7, 3) := by decide +kernel
theorem dX7_feeds_4 : decode cX7_feeds 4 = .ok (.sipush 149, 3) := by decide +kernel
theorem dX7_feeds_7 : decode cX7_feeds 7 = .ok (.iaload, 1) := by decide +kernel
theorem dX7_feeds_8 : decode cX7_feeds 8 = .ok (.ifCond .ne 4, 3) := by decide +kernel
theorem dX7_feeds_11 : decode cX7_feeds 11 = .ok (.return_, 1) := by decide +kernel
theorem dX7_feeds_12 : decode cX7_feeds 12 = .ok (.aload_n 0, 1) := by decide +kernel
theorem dX7_feeds_13 : decode cX7_feeds 13 = .ok (.iconst 0, 1) := by decide +kernel
theorem dX7_feeds_14 : decode cX7_feeds 14 = .ok (.invokevirtual 20, 3) := by decide +kernel
theorem dX7_feeds_17 : decode cX7_feeds 17 = .ok (.bipush 9, 2) := by decide +kernel
theorem dX7_feeds_19 : decode cX7_feeds 19 = .ok (.iadd, 1) := by decide +kernel
theorem dX7_feeds_20 : decode cX7_feeds 20 = .ok (.sipush 600, 3) := by decide +kernel
theorem dX7_feeds_23 : decode cX7_feeds 23 = .ok (.if_icmp .le 16, 3) := by decide +kernel
theorem dX7_feeds_26 : decode cX7_feeds 26 = .ok (.aload_n 0, 1) := by decide +kernel
theorem dX7_feeds_27 : decode cX7_feeds 27 = .ok (.getfield 7, 3) := by decide +kernel
theorem dX7_feeds_30 : decode cX7_feeds 30 = .ok (.sipush 145, 3) := by decide +kernel
theorem dX7_feeds_33 : decode cX7_feeds 33 = .ok (.dup2, 1) := by decide +kernel
theorem dX7_feeds_34 : decode cX7_feeds 34 = .ok (.iaload, 1) := by decide +kernel
theorem dX7_feeds_35 : decode cX7_feeds 35 = .ok (.iconst 1, 1) := by decide +kernel
theorem dX7_feeds_36 : decode cX7_feeds 36 = .ok (.iadd, 1) := by decide +kernel
theorem dX7_feeds_37 : decode cX7_feeds 37 = .ok (.iastore, 1) := by decide +kernel
theorem dX7_feeds_38 : decode cX7_feeds 38 = .ok (.return_, 1) := by decide +kernel
theorem dX7_feeds_39 : decode cX7_feeds 39 = .ok (.iconst 0, 1) := by decide +kernel
theorem dX7_feeds_40 : decode cX7_feeds 40 = .ok (.istore_n 1, 1) := by decide +kernel
theorem dX7_feeds_41 : decode cX7_feeds 41 = .ok (.iload_n 1, 1) := by decide +kernel
theorem dX7_feeds_42 : decode cX7_feeds 42 = .ok (.iconst 3, 1) := by decide +kernel
theorem dX7_feeds_43 : decode cX7_feeds 43 = .ok (.if_icmp .ge 38, 3) := by decide +kernel
theorem dX7_feeds_46 : decode cX7_feeds 46 = .ok (.aload_n 0, 1) := by decide +kernel
theorem dX7_feeds_47 : decode cX7_feeds 47 = .ok (.getfield 7, 3) := by decide +kernel
theorem dX7_feeds_50 : decode cX7_feeds 50 = .ok (.iconst 0, 1) := by decide +kernel
theorem dX7_feeds_51 : decode cX7_feeds 51 = .ok (.iload_n 1, 1) := by decide +kernel
theorem dX7_feeds_52 : decode cX7_feeds 52 = .ok (.iadd, 1) := by decide +kernel
theorem dX7_feeds_53 : decode cX7_feeds 53 = .ok (.dup2, 1) := by decide +kernel
theorem dX7_feeds_54 : decode cX7_feeds 54 = .ok (.iaload, 1) := by decide +kernel
theorem dX7_feeds_55 : decode cX7_feeds 55 = .ok (.iconst 4, 1) := by decide +kernel
theorem dX7_feeds_56 : decode cX7_feeds 56 = .ok (.iload_n 1, 1) := by decide +kernel
theorem dX7_feeds_57 : decode cX7_feeds 57 = .ok (.isub, 1) := by decide +kernel
theorem dX7_feeds_58 : decode cX7_feeds 58 = .ok (.iadd, 1) := by decide +kernel
theorem dX7_feeds_59 : decode cX7_feeds 59 = .ok (.iastore, 1) := by decide +kernel
theorem dX7_feeds_60 : decode cX7_feeds 60 = .ok (.aload_n 0, 1) := by decide +kernel
theorem dX7_feeds_61 : decode cX7_feeds 61 = .ok (.getfield 7, 3) := by decide +kernel
theorem dX7_feeds_64 : decode cX7_feeds 64 = .ok (.bipush 64, 2) := by decide +kernel
theorem dX7_feeds_66 : decode cX7_feeds 66 = .ok (.iload_n 1, 1) := by decide +kernel
theorem dX7_feeds_67 : decode cX7_feeds 67 = .ok (.iadd, 1) := by decide +kernel
theorem dX7_feeds_68 : decode cX7_feeds 68 = .ok (.dup2, 1) := by decide +kernel
theorem dX7_feeds_69 : decode cX7_feeds 69 = .ok (.iaload, 1) := by decide +kernel
theorem dX7_feeds_70 : decode cX7_feeds 70 = .ok (.iconst 4, 1) := by decide +kernel
theorem dX7_feeds_71 : decode cX7_feeds 71 = .ok (.iload_n 1, 1) := by decide +kernel
theorem dX7_feeds_72 : decode cX7_feeds 72 = .ok (.isub, 1) := by decide +kernel
theorem dX7_feeds_73 : decode cX7_feeds 73 = .ok (.iadd, 1) := by decide +kernel
theorem dX7_feeds_74 : decode cX7_feeds 74 = .ok (.iastore, 1) := by decide +kernel
theorem dX7_feeds_75 : decode cX7_feeds 75 = .ok (.iinc 1 1, 3) := by decide +kernel
theorem dX7_feeds_78 : decode cX7_feeds 78 = .ok (.goto (-37), 3) := by decide +kernel
theorem dX7_feeds_81 : decode cX7_feeds 81 = .ok (.return_, 1) := by decide +kernel
theorem dX7_blows_0 : decode cX7_blows 0 = .ok (.aload_n 0, 1) := by decide +kernel
theorem dX7_blows_1 : decode cX7_blows 1 = .ok (.getfield 7, 3) := by decide +kernel
theorem dX7_blows_4 : decode cX7_blows 4 = .ok (.bipush 76, 2) := by decide +kernel
theorem dX7_blows_6 : decode cX7_blows 6 = .ok (.iload_n 1, 1) := by decide +kernel
theorem dX7_blows_7 : decode cX7_blows 7 = .ok (.iadd, 1) := by decide +kernel
theorem dX7_blows_8 : decode cX7_blows 8 = .ok (.iaload, 1) := by decide +kernel
theorem dX7_blows_9 : decode cX7_blows 9 = .ok (.sipush 1000, 3) := by decide +kernel
theorem dX7_blows_12 : decode cX7_blows 12 = .ok (.if_icmp .lt 18, 3) := by decide +kernel
theorem dX7_blows_15 : decode cX7_blows 15 = .ok (.aload_n 0, 1) := by decide +kernel
theorem dX7_blows_16 : decode cX7_blows 16 = .ok (.getfield 7, 3) := by decide +kernel
theorem dX7_blows_19 : decode cX7_blows 19 = .ok (.bipush 76, 2) := by decide +kernel
theorem dX7_blows_21 : decode cX7_blows 21 = .ok (.iload_n 1, 1) := by decide +kernel
theorem dX7_blows_22 : decode cX7_blows 22 = .ok (.iadd, 1) := by decide +kernel
theorem dX7_blows_23 : decode cX7_blows 23 = .ok (.iaload, 1) := by decide +kernel
theorem dX7_blows_24 : decode cX7_blows 24 = .ok (.sipush 1300, 3) := by decide +kernel
theorem dX7_blows_27 : decode cX7_blows 27 = .ok (.if_icmp .le 27, 3) := by decide +kernel
theorem dX7_blows_30 : decode cX7_blows 30 = .ok (.aload_n 0, 1) := by decide +kernel
theorem dX7_blows_31 : decode cX7_blows 31 = .ok (.getfield 7, 3) := by decide +kernel
theorem dX7_blows_34 : decode cX7_blows 34 = .ok (.bipush 79, 2) := by decide +kernel
theorem dX7_blows_36 : decode cX7_blows 36 = .ok (.iload_n 1, 1) := by decide +kernel
theorem dX7_blows_37 : decode cX7_blows 37 = .ok (.iadd, 1) := by decide +kernel
theorem dX7_blows_38 : decode cX7_blows 38 = .ok (.iconst 0, 1) := by decide +kernel
theorem dX7_blows_39 : decode cX7_blows 39 = .ok (.iastore, 1) := by decide +kernel
theorem dX7_blows_40 : decode cX7_blows 40 = .ok (.aload_n 0, 1) := by decide +kernel
theorem dX7_blows_41 : decode cX7_blows 41 = .ok (.getfield 7, 3) := by decide +kernel
theorem dX7_blows_44 : decode cX7_blows 44 = .ok (.bipush 85, 2) := by decide +kernel
theorem dX7_blows_46 : decode cX7_blows 46 = .ok (.iload_n 1, 1) := by decide +kernel
theorem dX7_blows_47 : decode cX7_blows 47 = .ok (.iadd, 1) := by decide +kernel
theorem dX7_blows_48 : decode cX7_blows 48 = .ok (.dup2, 1) := by decide +kernel
theorem dX7_blows_49 : decode cX7_blows 49 = .ok (.iaload, 1) := by decide +kernel
theorem dX7_blows_50 : decode cX7_blows 50 = .ok (.iconst 1, 1) := by decide +kernel
theorem dX7_blows_51 : decode cX7_blows 51 = .ok (.iadd, 1) := by decide +kernel
theorem dX7_blows_52 : decode cX7_blows 52 = .ok (.iastore, 1) := by decide +kernel
theorem dX7_blows_53 : decode cX7_blows 53 = .ok (.return_, 1) := by decide +kernel
theorem dX7_blows_54 : decode cX7_blows 54 = .ok (.iconst 4, 1) := by decide +kernel
theorem dX7_blows_55 : decode cX7_blows 55 = .ok (.iconst 4, 1) := by decide +kernel
theorem dX7_blows_56 : decode cX7_blows 56 = .ok (.iload_n 1, 1) := by decide +kernel
theorem dX7_blows_57 : decode cX7_blows 57 = .ok (.imul, 1) := by decide +kernel
theorem dX7_blows_58 : decode cX7_blows 58 = .ok (.iadd, 1) := by decide +kernel
theorem dX7_blows_59 : decode cX7_blows 59 = .ok (.istore_n 2, 1) := by decide +kernel
theorem dX7_blows_60 : decode cX7_blows 60 = .ok (.aload_n 0, 1) := by decide +kernel
theorem dX7_blows_61 : decode cX7_blows 61 = .ok (.getfield 7, 3) := by decide +kernel
theorem dX7_blows_64 : decode cX7_blows 64 = .ok (.iload_n 2, 1) := by decide +kernel
theorem dX7_blows_65 : decode cX7_blows 65 = .ok (.iconst 1, 1) := by decide +kernel
theorem dX7_blows_66 : decode cX7_blows 66 = .ok (.iadd, 1) := by decide +kernel
theorem dX7_blows_67 : decode cX7_blows 67 = .ok (.iaload, 1) := by decide +kernel
theorem dX7_blows_68 : decode cX7_blows 68 = .ok (.bipush 6, 2) := by decide +kernel
theorem dX7_blows_70 : decode cX7_blows 70 = .ok (.if_icmp .ge 14, 3) := by decide +kernel
theorem dX7_blows_73 : decode cX7_blows 73 = .ok (.aload_n 0, 1) := by decide +kernel
theorem dX7_blows_74 : decode cX7_blows 74 = .ok (.getfield 7, 3) := by decide +kernel
theorem dX7_blows_77 : decode cX7_blows 77 = .ok (.iload_n 2, 1) := by decide +kernel
theorem dX7_blows_78 : decode cX7_blows 78 = .ok (.iconst 1, 1) := by decide +kernel
theorem dX7_blows_79 : decode cX7_blows 79 = .ok (.iadd, 1) := by decide +kernel
theorem dX7_blows_80 : decode cX7_blows 80 = .ok (.iaload, 1) := by decide +kernel
theorem dX7_blows_81 : decode cX7_blows 81 = .ok (.goto 5, 3) := by decide +kernel
theorem dX7_blows_84 : decode cX7_blows 84 = .ok (.bipush 6, 2) := by decide +kernel
theorem dX7_blows_86 : decode cX7_blows 86 = .ok (.istore_n 3, 1) := by decide +kernel
theorem dX7_blows_87 : decode cX7_blows 87 = .ok (.aload_n 0, 1) := by decide +kernel
theorem dX7_blows_88 : decode cX7_blows 88 = .ok (.getfield 7, 3) := by decide +kernel
theorem dX7_blows_91 : decode cX7_blows 91 = .ok (.iload_n 2, 1) := by decide +kernel
theorem dX7_blows_92 : decode cX7_blows 92 = .ok (.iconst 2, 1) := by decide +kernel
theorem dX7_blows_93 : decode cX7_blows 93 = .ok (.iadd, 1) := by decide +kernel
theorem dX7_blows_94 : decode cX7_blows 94 = .ok (.iaload, 1) := by decide +kernel
theorem dX7_blows_95 : decode cX7_blows 95 = .ok (.bipush 6, 2) := by decide +kernel
theorem dX7_blows_97 : decode cX7_blows 97 = .ok (.iload_n 3, 1) := by decide +kernel
theorem dX7_blows_98 : decode cX7_blows 98 = .ok (.isub, 1) := by decide +kernel
theorem dX7_blows_99 : decode cX7_blows 99 = .ok (.if_icmp .ge 14, 3) := by decide +kernel
theorem dX7_blows_102 : decode cX7_blows 102 = .ok (.aload_n 0, 1) := by decide +kernel
theorem dX7_blows_103 : decode cX7_blows 103 = .ok (.getfield 7, 3) := by decide +kernel
theorem dX7_blows_106 : decode cX7_blows 106 = .ok (.iload_n 2, 1) := by decide +kernel
theorem dX7_blows_107 : decode cX7_blows 107 = .ok (.iconst 2, 1) := by decide +kernel
theorem dX7_blows_108 : decode cX7_blows 108 = .ok (.iadd, 1) := by decide +kernel
theorem dX7_blows_109 : decode cX7_blows 109 = .ok (.iaload, 1) := by decide +kernel
theorem dX7_blows_110 : decode cX7_blows 110 = .ok (.goto 7, 3) := by decide +kernel
theorem dX7_blows_113 : decode cX7_blows 113 = .ok (.bipush 6, 2) := by decide +kernel
theorem dX7_blows_115 : decode cX7_blows 115 = .ok (.iload_n 3, 1) := by decide +kernel
theorem dX7_blows_116 : decode cX7_blows 116 = .ok (.isub, 1) := by decide +kernel
theorem dX7_blows_117 : decode cX7_blows 117 = .ok (.istore 4, 2) := by decide +kernel
theorem dX7_blows_119 : decode cX7_blows 119 = .ok (.aload_n 0, 1) := by decide +kernel
theorem dX7_blows_120 : decode cX7_blows 120 = .ok (.getfield 7, 3) := by decide +kernel
theorem dX7_blows_123 : decode cX7_blows 123 = .ok (.iload_n 2, 1) := by decide +kernel
theorem dX7_blows_124 : decode cX7_blows 124 = .ok (.iaload, 1) := by decide +kernel
theorem dX7_blows_125 : decode cX7_blows 125 = .ok (.bipush 6, 2) := by decide +kernel
theorem dX7_blows_127 : decode cX7_blows 127 = .ok (.iload_n 3, 1) := by decide +kernel
theorem dX7_blows_128 : decode cX7_blows 128 = .ok (.isub, 1) := by decide +kernel
theorem dX7_blows_129 : decode cX7_blows 129 = .ok (.iload 4, 2) := by decide +kernel
theorem dX7_blows_131 : decode cX7_blows 131 = .ok (.isub, 1) := by decide +kernel
theorem dX7_blows_132 : decode cX7_blows 132 = .ok (.if_icmp .ge 12, 3) := by decide +kernel
theorem dX7_blows_135 : decode cX7_blows 135 = .ok (.aload_n 0, 1) := by decide +kernel
theorem dX7_blows_136 : decode cX7_blows 136 = .ok (.getfield 7, 3) := by decide +kernel
theorem dX7_blows_139 : decode cX7_blows 139 = .ok (.iload_n 2, 1) := by decide +kernel
theorem dX7_blows_140 : decode cX7_blows 140 = .ok (.iaload, 1) := by decide +kernel
theorem dX7_blows_141 : decode cX7_blows 141 = .ok (.goto 10, 3) := by decide +kernel
theorem dX7_blows_144 : decode cX7_blows 144 = .ok (.bipush 6, 2) := by decide +kernel
theorem dX7_blows_146 : decode cX7_blows 146 = .ok (.iload_n 3, 1) := by decide +kernel
theorem dX7_blows_147 : decode cX7_blows 147 = .ok (.isub, 1) := by decide +kernel
theorem dX7_blows_148 : decode cX7_blows 148 = .ok (.iload 4, 2) := by decide +kernel
theorem dX7_blows_150 : decode cX7_blows 150 = .ok (.isub, 1) := by decide +kernel
theorem dX7_blows_151 : decode cX7_blows 151 = .ok (.istore 5, 2) := by decide +kernel
theorem dX7_blows_153 : decode cX7_blows 153 = .ok (.aload_n 0, 1) := by decide +kernel
theorem dX7_blows_154 : decode cX7_blows 154 = .ok (.getfield 7, 3) := by decide +kernel
theorem dX7_blows_157 : decode cX7_blows 157 = .ok (.sipush 142, 3) := by decide +kernel
theorem dX7_blows_160 : decode cX7_blows 160 = .ok (.iaload, 1) := by decide +kernel
theorem dX7_blows_161 : decode cX7_blows 161 = .ok (.iload 4, 2) := by decide +kernel
theorem dX7_blows_163 : decode cX7_blows 163 = .ok (.iadd, 1) := by decide +kernel
theorem dX7_blows_164 : decode cX7_blows 164 = .ok (.aload_n 0, 1) := by decide +kernel
theorem dX7_blows_165 : decode cX7_blows 165 = .ok (.getfield 7, 3) := by decide +kernel
theorem dX7_blows_168 : decode cX7_blows 168 = .ok (.sipush 148, 3) := by decide +kernel
theorem dX7_blows_171 : decode cX7_blows 171 = .ok (.iaload, 1) := by decide +kernel
theorem dX7_blows_172 : decode cX7_blows 172 = .ok (.if_icmp .le 17, 3) := by decide +kernel
theorem dX7_blows_175 : decode cX7_blows 175 = .ok (.aload_n 0, 1) := by decide +kernel
theorem dX7_blows_176 : decode cX7_blows 176 = .ok (.getfield 7, 3) := by decide +kernel
theorem dX7_blows_179 : decode cX7_blows 179 = .ok (.bipush 82, 2) := by decide +kernel
theorem dX7_blows_181 : decode cX7_blows 181 = .ok (.iload_n 1, 1) := by decide +kernel
theorem dX7_blows_182 : decode cX7_blows 182 = .ok (.iadd, 1) := by decide +kernel
theorem dX7_blows_183 : decode cX7_blows 183 = .ok (.dup2, 1) := by decide +kernel
theorem dX7_blows_184 : decode cX7_blows 184 = .ok (.iaload, 1) := by decide +kernel
theorem dX7_blows_185 : decode cX7_blows 185 = .ok (.iconst 1, 1) := by decide +kernel
theorem dX7_blows_186 : decode cX7_blows 186 = .ok (.iadd, 1) := by decide +kernel
theorem dX7_blows_187 : decode cX7_blows 187 = .ok (.iastore, 1) := by decide +kernel
theorem dX7_blows_188 : decode cX7_blows 188 = .ok (.return_, 1) := by decide +kernel
theorem dX7_blows_189 : decode cX7_blows 189 = .ok (.aload_n 0, 1) := by decide +kernel
theorem dX7_blows_190 : decode cX7_blows 190 = .ok (.getfield 7, 3) := by decide +kernel
theorem dX7_blows_193 : decode cX7_blows 193 = .ok (.iload_n 2, 1) := by decide +kernel
theorem dX7_blows_194 : decode cX7_blows 194 = .ok (.dup2, 1) := by decide +kernel
theorem dX7_blows_195 : decode cX7_blows 195 = .ok (.iaload, 1) := by decide +kernel
theorem dX7_blows_196 : decode cX7_blows 196 = .ok (.iload 5, 2) := by decide +kernel
theorem dX7_blows_198 : decode cX7_blows 198 = .ok (.isub, 1) := by decide +kernel
theorem dX7_blows_199 : decode cX7_blows 199 = .ok (.iastore, 1) := by decide +kernel
theorem dX7_blows_200 : decode cX7_blows 200 = .ok (.aload_n 0, 1) := by decide +kernel
theorem dX7_blows_201 : decode cX7_blows 201 = .ok (.getfield 7, 3) := by decide +kernel
theorem dX7_blows_204 : decode cX7_blows 204 = .ok (.iload_n 2, 1) := by decide +kernel
theorem dX7_blows_205 : decode cX7_blows 205 = .ok (.iconst 1, 1) := by decide +kernel
theorem dX7_blows_206 : decode cX7_blows 206 = .ok (.iadd, 1) := by decide +kernel
theorem dX7_blows_207 : decode cX7_blows 207 = .ok (.dup2, 1) := by decide +kernel
theorem dX7_blows_208 : decode cX7_blows 208 = .ok (.iaload, 1) := by decide +kernel
theorem dX7_blows_209 : decode cX7_blows 209 = .ok (.iload_n 3, 1) := by decide +kernel
theorem dX7_blows_210 : decode cX7_blows 210 = .ok (.isub, 1) := by decide +kernel
theorem dX7_blows_211 : decode cX7_blows 211 = .ok (.iastore, 1) := by decide +kernel
theorem dX7_blows_212 : decode cX7_blows 212 = .ok (.aload_n 0, 1) := by decide +kernel
theorem dX7_blows_213 : decode cX7_blows 213 = .ok (.getfield 7, 3) := by decide +kernel
theorem dX7_blows_216 : decode cX7_blows 216 = .ok (.iload_n 2, 1) := by decide +kernel
theorem dX7_blows_217 : decode cX7_blows 217 = .ok (.iconst 2, 1) := by decide +kernel
theorem dX7_blows_218 : decode cX7_blows 218 = .ok (.iadd, 1) := by decide +kernel
theorem dX7_blows_219 : decode cX7_blows 219 = .ok (.dup2, 1) := by decide +kernel
theorem dX7_blows_220 : decode cX7_blows 220 = .ok (.iaload, 1) := by decide +kernel
theorem dX7_blows_221 : decode cX7_blows 221 = .ok (.iload 4, 2) := by decide +kernel
theorem dX7_blows_223 : decode cX7_blows 223 = .ok (.isub, 1) := by decide +kernel
theorem dX7_blows_224 : decode cX7_blows 224 = .ok (.iastore, 1) := by decide +kernel
theorem dX7_blows_225 : decode cX7_blows 225 = .ok (.aload_n 0, 1) := by decide +kernel
theorem dX7_blows_226 : decode cX7_blows 226 = .ok (.getfield 7, 3) := by decide +kernel
theorem dX7_blows_229 : decode cX7_blows 229 = .ok (.iload_n 2, 1) := by decide +kernel
theorem dX7_blows_230 : decode cX7_blows 230 = .ok (.iconst 3, 1) := by decide +kernel
theorem dX7_blows_231 : decode cX7_blows 231 = .ok (.iadd, 1) := by decide +kernel
theorem dX7_blows_232 : decode cX7_blows 232 = .ok (.dup2, 1) := by decide +kernel
theorem dX7_blows_233 : decode cX7_blows 233 = .ok (.iaload, 1) := by decide +kernel
theorem dX7_blows_234 : decode cX7_blows 234 = .ok (.iload_n 3, 1) := by decide +kernel
theorem dX7_blows_235 : decode cX7_blows 235 = .ok (.iload 5, 2) := by decide +kernel
theorem dX7_blows_237 : decode cX7_blows 237 = .ok (.iadd, 1) := by decide +kernel
theorem dX7_blows_238 : decode cX7_blows 238 = .ok (.iadd, 1) := by decide +kernel
theorem dX7_blows_239 : decode cX7_blows 239 = .ok (.iastore, 1) := by decide +kernel
theorem dX7_blows_240 : decode cX7_blows 240 = .ok (.aload_n 0, 1) := by decide +kernel
theorem dX7_blows_241 : decode cX7_blows 241 = .ok (.getfield 7, 3) := by decide +kernel
theorem dX7_blows_244 : decode cX7_blows 244 = .ok (.bipush 68, 2) := by decide +kernel
theorem dX7_blows_246 : decode cX7_blows 246 = .ok (.dup2, 1) := by decide +kernel
theorem dX7_blows_247 : decode cX7_blows 247 = .ok (.iaload, 1) := by decide +kernel
theorem dX7_blows_248 : decode cX7_blows 248 = .ok (.iload 5, 2) := by decide +kernel
theorem dX7_blows_250 : decode cX7_blows 250 = .ok (.iadd, 1) := by decide +kernel
theorem dX7_blows_251 : decode cX7_blows 251 = .ok (.iastore, 1) := by decide +kernel
theorem dX7_blows_252 : decode cX7_blows 252 = .ok (.aload_n 0, 1) := by decide +kernel
theorem dX7_blows_253 : decode cX7_blows 253 = .ok (.getfield 7, 3) := by decide +kernel
theorem dX7_blows_256 : decode cX7_blows 256 = .ok (.bipush 69, 2) := by decide +kernel
theorem dX7_blows_258 : decode cX7_blows 258 = .ok (.dup2, 1) := by decide +kernel
theorem dX7_blows_259 : decode cX7_blows 259 = .ok (.iaload, 1) := by decide +kernel
theorem dX7_blows_260 : decode cX7_blows 260 = .ok (.iload_n 3, 1) := by decide +kernel
theorem dX7_blows_261 : decode cX7_blows 261 = .ok (.iadd, 1) := by decide +kernel
theorem dX7_blows_262 : decode cX7_blows 262 = .ok (.iastore, 1) := by decide +kernel
theorem dX7_blows_263 : decode cX7_blows 263 = .ok (.aload_n 0, 1) := by decide +kernel
theorem dX7_blows_264 : decode cX7_blows 264 = .ok (.getfield 7, 3) := by decide +kernel
theorem dX7_blows_267 : decode cX7_blows 267 = .ok (.bipush 70, 2) := by decide +kernel
theorem dX7_blows_269 : decode cX7_blows 269 = .ok (.dup2, 1) := by decide +kernel
theorem dX7_blows_270 : decode cX7_blows 270 = .ok (.iaload, 1) := by decide +kernel
theorem dX7_blows_271 : decode cX7_blows 271 = .ok (.iload 4, 2) := by decide +kernel
theorem dX7_blows_273 : decode cX7_blows 273 = .ok (.iadd, 1) := by decide +kernel
theorem dX7_blows_274 : decode cX7_blows 274 = .ok (.iastore, 1) := by decide +kernel
theorem dX7_blows_275 : decode cX7_blows 275 = .ok (.aload_n 0, 1) := by decide +kernel
theorem dX7_blows_276 : decode cX7_blows 276 = .ok (.getfield 7, 3) := by decide +kernel
theorem dX7_blows_279 : decode cX7_blows 279 = .ok (.bipush 75, 2) := by decide +kernel
theorem dX7_blows_281 : decode cX7_blows 281 = .ok (.dup2, 1) := by decide +kernel
theorem dX7_blows_282 : decode cX7_blows 282 = .ok (.iaload, 1) := by decide +kernel
theorem dX7_blows_283 : decode cX7_blows 283 = .ok (.iload_n 3, 1) := by decide +kernel
theorem dX7_blows_284 : decode cX7_blows 284 = .ok (.iload 5, 2) := by decide +kernel
theorem dX7_blows_286 : decode cX7_blows 286 = .ok (.iadd, 1) := by decide +kernel
theorem dX7_blows_287 : decode cX7_blows 287 = .ok (.iadd, 1) := by decide +kernel
theorem dX7_blows_288 : decode cX7_blows 288 = .ok (.iastore, 1) := by decide +kernel
theorem dX7_blows_289 : decode cX7_blows 289 = .ok (.aload_n 0, 1) := by decide +kernel
theorem dX7_blows_290 : decode cX7_blows 290 = .ok (.getfield 7, 3) := by decide +kernel
theorem dX7_blows_293 : decode cX7_blows 293 = .ok (.bipush 76, 2) := by decide +kernel
theorem dX7_blows_295 : decode cX7_blows 295 = .ok (.iload_n 1, 1) := by decide +kernel
theorem dX7_blows_296 : decode cX7_blows 296 = .ok (.iadd, 1) := by decide +kernel
theorem dX7_blows_297 : decode cX7_blows 297 = .ok (.dup2, 1) := by decide +kernel
theorem dX7_blows_298 : decode cX7_blows 298 = .ok (.iaload, 1) := by decide +kernel
theorem dX7_blows_299 : decode cX7_blows 299 = .ok (.iconst 4, 1) := by decide +kernel
theorem dX7_blows_300 : decode cX7_blows 300 = .ok (.iload_n 3, 1) := by decide +kernel
theorem dX7_blows_301 : decode cX7_blows 301 = .ok (.imul, 1) := by decide +kernel
theorem dX7_blows_302 : decode cX7_blows 302 = .ok (.iconst 3, 1) := by decide +kernel
theorem dX7_blows_303 : decode cX7_blows 303 = .ok (.iload 4, 2) := by decide +kernel
theorem dX7_blows_305 : decode cX7_blows 305 = .ok (.imul, 1) := by decide +kernel
theorem dX7_blows_306 : decode cX7_blows 306 = .ok (.iadd, 1) := by decide +kernel
theorem dX7_blows_307 : decode cX7_blows 307 = .ok (.iconst 2, 1) := by decide +kernel
theorem dX7_blows_308 : decode cX7_blows 308 = .ok (.iload 5, 2) := by decide +kernel
theorem dX7_blows_310 : decode cX7_blows 310 = .ok (.imul, 1) := by decide +kernel
theorem dX7_blows_311 : decode cX7_blows 311 = .ok (.iadd, 1) := by decide +kernel
theorem dX7_blows_312 : decode cX7_blows 312 = .ok (.iadd, 1) := by decide +kernel
theorem dX7_blows_313 : decode cX7_blows 313 = .ok (.iastore, 1) := by decide +kernel
theorem dX7_blows_314 : decode cX7_blows 314 = .ok (.aload_n 0, 1) := by decide +kernel
theorem dX7_blows_315 : decode cX7_blows 315 = .ok (.getfield 7, 3) := by decide +kernel
theorem dX7_blows_318 : decode cX7_blows 318 = .ok (.sipush 142, 3) := by decide +kernel
theorem dX7_blows_321 : decode cX7_blows 321 = .ok (.dup2, 1) := by decide +kernel
theorem dX7_blows_322 : decode cX7_blows 322 = .ok (.iaload, 1) := by decide +kernel
theorem dX7_blows_323 : decode cX7_blows 323 = .ok (.iload 4, 2) := by decide +kernel
theorem dX7_blows_325 : decode cX7_blows 325 = .ok (.iadd, 1) := by decide +kernel
theorem dX7_blows_326 : decode cX7_blows 326 = .ok (.iastore, 1) := by decide +kernel
theorem dX7_blows_327 : decode cX7_blows 327 = .ok (.aload_n 0, 1) := by decide +kernel
theorem dX7_blows_328 : decode cX7_blows 328 = .ok (.getfield 7, 3) := by decide +kernel
theorem dX7_blows_331 : decode cX7_blows 331 = .ok (.sipush 141, 3) := by decide +kernel
theorem dX7_blows_334 : decode cX7_blows 334 = .ok (.dup2, 1) := by decide +kernel
theorem dX7_blows_335 : decode cX7_blows 335 = .ok (.iaload, 1) := by decide +kernel
theorem dX7_blows_336 : decode cX7_blows 336 = .ok (.iload 4, 2) := by decide +kernel
theorem dX7_blows_338 : decode cX7_blows 338 = .ok (.iadd, 1) := by decide +kernel
theorem dX7_blows_339 : decode cX7_blows 339 = .ok (.iastore, 1) := by decide +kernel
theorem dX7_blows_340 : decode cX7_blows 340 = .ok (.return_, 1) := by decide +kernel
theorem dX7_vesselAt_0 : decode cX7_vesselAt 0 = .ok (.iload_n 0, 1) := by decide +kernel
theorem dX7_vesselAt_1 : decode cX7_vesselAt 1 = .ok (.iconst 4, 1) := by decide +kernel
theorem dX7_vesselAt_2 : decode cX7_vesselAt 2 = .ok (.if_icmp .ne 7, 3) := by decide +kernel
theorem dX7_vesselAt_5 : decode cX7_vesselAt 5 = .ok (.iconst 0, 1) := by decide +kernel
theorem dX7_vesselAt_6 : decode cX7_vesselAt 6 = .ok (.goto 24, 3) := by decide +kernel
theorem dX7_vesselAt_9 : decode cX7_vesselAt 9 = .ok (.iload_n 0, 1) := by decide +kernel
theorem dX7_vesselAt_10 : decode cX7_vesselAt 10 = .ok (.bipush 8, 2) := by decide +kernel
theorem dX7_vesselAt_12 : decode cX7_vesselAt 12 = .ok (.if_icmp .ne 7, 3) := by decide +kernel
theorem dX7_vesselAt_15 : decode cX7_vesselAt 15 = .ok (.iconst 1, 1) := by decide +kernel
theorem dX7_vesselAt_16 : decode cX7_vesselAt 16 = .ok (.goto 14, 3) := by decide +kernel
theorem dX7_vesselAt_19 : decode cX7_vesselAt 19 = .ok (.iload_n 0, 1) := by decide +kernel
theorem dX7_vesselAt_20 : decode cX7_vesselAt 20 = .ok (.bipush 12, 2) := by decide +kernel
theorem dX7_vesselAt_22 : decode cX7_vesselAt 22 = .ok (.if_icmp .ne 7, 3) := by decide +kernel
theorem dX7_vesselAt_25 : decode cX7_vesselAt 25 = .ok (.iconst 2, 1) := by decide +kernel
theorem dX7_vesselAt_26 : decode cX7_vesselAt 26 = .ok (.goto 4, 3) := by decide +kernel
theorem dX7_vesselAt_29 : decode cX7_vesselAt 29 = .ok (.iconst (-1), 1) := by decide +kernel
theorem dX7_vesselAt_30 : decode cX7_vesselAt 30 = .ok (.ireturn, 1) := by decide +kernel
theorem dX7_isFloor_0 : decode cX7_isFloor 0 = .ok (.iload_n 0, 1) := by decide +kernel
theorem dX7_isFloor_1 : decode cX7_isFloor 1 = .ok (.ifCond .eq 25, 3) := by decide +kernel
theorem dX7_isFloor_4 : decode cX7_isFloor 4 = .ok (.iload_n 0, 1) := by decide +kernel
theorem dX7_isFloor_5 : decode cX7_isFloor 5 = .ok (.iconst 2, 1) := by decide +kernel
theorem dX7_isFloor_6 : decode cX7_isFloor 6 = .ok (.if_icmp .eq 20, 3) := by decide +kernel
theorem dX7_isFloor_9 : decode cX7_isFloor 9 = .ok (.iload_n 0, 1) := by decide +kernel
theorem dX7_isFloor_10 : decode cX7_isFloor 10 = .ok (.bipush 15, 2) := by decide +kernel
theorem dX7_isFloor_12 : decode cX7_isFloor 12 = .ok (.if_icmp .eq 14, 3) := by decide +kernel
theorem dX7_isFloor_15 : decode cX7_isFloor 15 = .ok (.iload_n 0, 1) := by decide +kernel
theorem dX7_isFloor_16 : decode cX7_isFloor 16 = .ok (.invokestatic 24, 3) := by decide +kernel
theorem dX7_isFloor_19 : decode cX7_isFloor 19 = .ok (.ifCond .ge 7, 3) := by decide +kernel
theorem dX7_isFloor_22 : decode cX7_isFloor 22 = .ok (.iconst 1, 1) := by decide +kernel
theorem dX7_isFloor_23 : decode cX7_isFloor 23 = .ok (.goto 4, 3) := by decide +kernel
theorem dX7_isFloor_26 : decode cX7_isFloor 26 = .ok (.iconst 0, 1) := by decide +kernel
theorem dX7_isFloor_27 : decode cX7_isFloor 27 = .ok (.ireturn, 1) := by decide +kernel
theorem dX7_standsAt_0 : decode cX7_standsAt 0 = .ok (.iconst 0, 1) := by decide +kernel
theorem dX7_standsAt_1 : decode cX7_standsAt 1 = .ok (.istore_n 2, 1) := by decide +kernel
theorem dX7_standsAt_2 : decode cX7_standsAt 2 = .ok (.iload_n 2, 1) := by decide +kernel
theorem dX7_standsAt_3 : decode cX7_standsAt 3 = .ok (.iconst 4, 1) := by decide +kernel
theorem dX7_standsAt_4 : decode cX7_standsAt 4 = .ok (.if_icmp .ge 36, 3) := by decide +kernel
theorem dX7_standsAt_7 : decode cX7_standsAt 7 = .ok (.aload_n 0, 1) := by decide +kernel
theorem dX7_standsAt_8 : decode cX7_standsAt 8 = .ok (.getfield 7, 3) := by decide +kernel
theorem dX7_standsAt_11 : decode cX7_standsAt 11 = .ok (.bipush 88, 2) := by decide +kernel
theorem dX7_standsAt_13 : decode cX7_standsAt 13 = .ok (.iload_n 2, 1) := by decide +kernel
theorem dX7_standsAt_14 : decode cX7_standsAt 14 = .ok (.iadd, 1) := by decide +kernel
theorem dX7_standsAt_15 : decode cX7_standsAt 15 = .ok (.iaload, 1) := by decide +kernel
theorem dX7_standsAt_16 : decode cX7_standsAt 16 = .ok (.iload_n 1, 1) := by decide +kernel
theorem dX7_standsAt_17 : decode cX7_standsAt 17 = .ok (.if_icmp .ne 17, 3) := by decide +kernel
theorem dX7_standsAt_20 : decode cX7_standsAt 20 = .ok (.aload_n 0, 1) := by decide +kernel
theorem dX7_standsAt_21 : decode cX7_standsAt 21 = .ok (.getfield 7, 3) := by decide +kernel
theorem dX7_standsAt_24 : decode cX7_standsAt 24 = .ok (.bipush 92, 2) := by decide +kernel
theorem dX7_standsAt_26 : decode cX7_standsAt 26 = .ok (.iload_n 2, 1) := by decide +kernel
theorem dX7_standsAt_27 : decode cX7_standsAt 27 = .ok (.iadd, 1) := by decide +kernel
theorem dX7_standsAt_28 : decode cX7_standsAt 28 = .ok (.iaload, 1) := by decide +kernel
theorem dX7_standsAt_29 : decode cX7_standsAt 29 = .ok (.ifCond .ge 5, 3) := by decide +kernel
theorem dX7_standsAt_32 : decode cX7_standsAt 32 = .ok (.iload_n 2, 1) := by decide +kernel
theorem dX7_standsAt_33 : decode cX7_standsAt 33 = .ok (.ireturn, 1) := by decide +kernel
theorem dX7_standsAt_34 : decode cX7_standsAt 34 = .ok (.iinc 2 1, 3) := by decide +kernel
theorem dX7_standsAt_37 : decode cX7_standsAt 37 = .ok (.goto (-35), 3) := by decide +kernel
theorem dX7_standsAt_40 : decode cX7_standsAt 40 = .ok (.iconst (-1), 1) := by decide +kernel
theorem dX7_standsAt_41 : decode cX7_standsAt 41 = .ok (.ireturn, 1) := by decide +kernel
theorem dX7_room_0 : decode cX7_room 0 = .ok (.bipush 100, 2) := by decide +kernel
theorem dX7_room_2 : decode cX7_room 2 = .ok (.aload_n 0, 1) := by decide +kernel
theorem dX7_room_3 : decode cX7_room 3 = .ok (.bipush 32, 2) := by decide +kernel
theorem dX7_room_5 : decode cX7_room 5 = .ok (.iconst 4, 1) := by decide +kernel
theorem dX7_room_6 : decode cX7_room 6 = .ok (.iload_n 1, 1) := by decide +kernel
theorem dX7_room_7 : decode cX7_room 7 = .ok (.imul, 1) := by decide +kernel
theorem dX7_room_8 : decode cX7_room 8 = .ok (.iadd, 1) := by decide +kernel
theorem dX7_room_9 : decode cX7_room 9 = .ok (.invokevirtual 20, 3) := by decide +kernel
theorem dX7_room_12 : decode cX7_room 12 = .ok (.isub, 1) := by decide +kernel
theorem dX7_room_13 : decode cX7_room 13 = .ok (.aload_n 0, 1) := by decide +kernel
theorem dX7_room_14 : decode cX7_room 14 = .ok (.bipush 16, 2) := by decide +kernel
theorem dX7_room_16 : decode cX7_room 16 = .ok (.iconst 4, 1) := by decide +kernel
theorem dX7_room_17 : decode cX7_room 17 = .ok (.iload_n 1, 1) := by decide +kernel
theorem dX7_room_18 : decode cX7_room 18 = .ok (.imul, 1) := by decide +kernel
theorem dX7_room_19 : decode cX7_room 19 = .ok (.iadd, 1) := by decide +kernel
theorem dX7_room_20 : decode cX7_room 20 = .ok (.invokevirtual 20, 3) := by decide +kernel
theorem dX7_room_23 : decode cX7_room 23 = .ok (.isub, 1) := by decide +kernel
theorem dX7_room_24 : decode cX7_room 24 = .ok (.ireturn, 1) := by decide +kernel
theorem dX7_takes_0 : decode cX7_takes 0 = .ok (.aload_n 0, 1) := by decide +kernel
theorem dX7_takes_1 : decode cX7_takes 1 = .ok (.iload_n 2, 1) := by decide +kernel
theorem dX7_takes_2 : decode cX7_takes 2 = .ok (.invokevirtual 27, 3) := by decide +kernel
theorem dX7_takes_5 : decode cX7_takes 5 = .ok (.istore_n 3, 1) := by decide +kernel
theorem dX7_takes_6 : decode cX7_takes 6 = .ok (.aload_n 0, 1) := by decide +kernel
theorem dX7_takes_7 : decode cX7_takes 7 = .ok (.getfield 7, 3) := by decide +kernel
theorem dX7_takes_10 : decode cX7_takes 10 = .ok (.bipush 102, 2) := by decide +kernel
theorem dX7_takes_12 : decode cX7_takes 12 = .ok (.iload_n 1, 1) := by decide +kernel
theorem dX7_takes_13 : decode cX7_takes 13 = .ok (.iadd, 1) := by decide +kernel
theorem dX7_takes_14 : decode cX7_takes 14 = .ok (.iaload, 1) := by decide +kernel
theorem dX7_takes_15 : decode cX7_takes 15 = .ok (.ifCond .ge 7, 3) := by decide +kernel
theorem dX7_takes_18 : decode cX7_takes 18 = .ok (.iload_n 3, 1) := by decide +kernel
theorem dX7_takes_19 : decode cX7_takes 19 = .ok (.ifCond .ge 5, 3) := by decide +kernel
theorem dX7_takes_22 : decode cX7_takes 22 = .ok (.iconst 0, 1) := by decide +kernel
theorem dX7_takes_23 : decode cX7_takes 23 = .ok (.ireturn, 1) := by decide +kernel
theorem dX7_takes_24 : decode cX7_takes 24 = .ok (.aload_n 0, 1) := by decide +kernel
theorem dX7_takes_25 : decode cX7_takes 25 = .ok (.getfield 7, 3) := by decide +kernel
theorem dX7_takes_28 : decode cX7_takes 28 = .ok (.bipush 102, 2) := by decide +kernel
theorem dX7_takes_30 : decode cX7_takes 30 = .ok (.iload_n 1, 1) := by decide +kernel
theorem dX7_takes_31 : decode cX7_takes 31 = .ok (.iadd, 1) := by decide +kernel
theorem dX7_takes_32 : decode cX7_takes 32 = .ok (.iload_n 3, 1) := by decide +kernel
theorem dX7_takes_33 : decode cX7_takes 33 = .ok (.iastore, 1) := by decide +kernel
theorem dX7_takes_34 : decode cX7_takes 34 = .ok (.aload_n 0, 1) := by decide +kernel
theorem dX7_takes_35 : decode cX7_takes 35 = .ok (.getfield 7, 3) := by decide +kernel
theorem dX7_takes_38 : decode cX7_takes 38 = .ok (.bipush 92, 2) := by decide +kernel
theorem dX7_takes_40 : decode cX7_takes 40 = .ok (.iload_n 3, 1) := by decide +kernel
theorem dX7_takes_41 : decode cX7_takes 41 = .ok (.iadd, 1) := by decide +kernel
theorem dX7_takes_42 : decode cX7_takes 42 = .ok (.iload_n 1, 1) := by decide +kernel
theorem dX7_takes_43 : decode cX7_takes 43 = .ok (.iastore, 1) := by decide +kernel
theorem dX7_takes_44 : decode cX7_takes 44 = .ok (.iconst 1, 1) := by decide +kernel
theorem dX7_takes_45 : decode cX7_takes 45 = .ok (.ireturn, 1) := by decide +kernel
theorem dX7_sets_0 : decode cX7_sets 0 = .ok (.aload_n 0, 1) := by decide +kernel
theorem dX7_sets_1 : decode cX7_sets 1 = .ok (.getfield 7, 3) := by decide +kernel
theorem dX7_sets_4 : decode cX7_sets 4 = .ok (.bipush 102, 2) := by decide +kernel
theorem dX7_sets_6 : decode cX7_sets 6 = .ok (.iload_n 1, 1) := by decide +kernel
theorem dX7_sets_7 : decode cX7_sets 7 = .ok (.iadd, 1) := by decide +kernel
theorem dX7_sets_8 : decode cX7_sets 8 = .ok (.iaload, 1) := by decide +kernel
theorem dX7_sets_9 : decode cX7_sets 9 = .ok (.istore_n 3, 1) := by decide +kernel
theorem dX7_sets_10 : decode cX7_sets 10 = .ok (.iload_n 2, 1) := by decide +kernel
theorem dX7_sets_11 : decode cX7_sets 11 = .ok (.invokestatic 30, 3) := by decide +kernel
theorem dX7_sets_14 : decode cX7_sets 14 = .ok (.ifCond .eq 11, 3) := by decide +kernel
theorem dX7_sets_17 : decode cX7_sets 17 = .ok (.aload_n 0, 1) := by decide +kernel
theorem dX7_sets_18 : decode cX7_sets 18 = .ok (.iload_n 2, 1) := by decide +kernel
theorem dX7_sets_19 : decode cX7_sets 19 = .ok (.invokevirtual 27, 3) := by decide +kernel
theorem dX7_sets_22 : decode cX7_sets 22 = .ok (.ifCond .lt 5, 3) := by decide +kernel
theorem dX7_sets_25 : decode cX7_sets 25 = .ok (.iconst 0, 1) := by decide +kernel
theorem dX7_sets_26 : decode cX7_sets 26 = .ok (.ireturn, 1) := by decide +kernel
theorem dX7_sets_27 : decode cX7_sets 27 = .ok (.aload_n 0, 1) := by decide +kernel
theorem dX7_sets_28 : decode cX7_sets 28 = .ok (.getfield 7, 3) := by decide +kernel
theorem dX7_sets_31 : decode cX7_sets 31 = .ok (.bipush 102, 2) := by decide +kernel
theorem dX7_sets_33 : decode cX7_sets 33 = .ok (.iload_n 1, 1) := by decide +kernel
theorem dX7_sets_34 : decode cX7_sets 34 = .ok (.iadd, 1) := by decide +kernel
theorem dX7_sets_35 : decode cX7_sets 35 = .ok (.iconst (-1), 1) := by decide +kernel
theorem dX7_sets_36 : decode cX7_sets 36 = .ok (.iastore, 1) := by decide +kernel
theorem dX7_sets_37 : decode cX7_sets 37 = .ok (.aload_n 0, 1) := by decide +kernel
theorem dX7_sets_38 : decode cX7_sets 38 = .ok (.getfield 7, 3) := by decide +kernel
theorem dX7_sets_41 : decode cX7_sets 41 = .ok (.bipush 92, 2) := by decide +kernel
theorem dX7_sets_43 : decode cX7_sets 43 = .ok (.iload_n 3, 1) := by decide +kernel
theorem dX7_sets_44 : decode cX7_sets 44 = .ok (.iadd, 1) := by decide +kernel
theorem dX7_sets_45 : decode cX7_sets 45 = .ok (.iconst (-1), 1) := by decide +kernel
theorem dX7_sets_46 : decode cX7_sets 46 = .ok (.iastore, 1) := by decide +kernel
theorem dX7_sets_47 : decode cX7_sets 47 = .ok (.iconst 1, 1) := by decide +kernel
theorem dX7_sets_48 : decode cX7_sets 48 = .ok (.ireturn, 1) := by decide +kernel
theorem dX7_taps_0 : decode cX7_taps 0 = .ok (.aload_n 0, 1) := by decide +kernel
theorem dX7_taps_1 : decode cX7_taps 1 = .ok (.iconst 0, 1) := by decide +kernel
theorem dX7_taps_2 : decode cX7_taps 2 = .ok (.invokevirtual 20, 3) := by decide +kernel
theorem dX7_taps_5 : decode cX7_taps 5 = .ok (.istore_n 3, 1) := by decide +kernel
theorem dX7_taps_6 : decode cX7_taps 6 = .ok (.iload_n 3, 1) := by decide +kernel
theorem dX7_taps_7 : decode cX7_taps 7 = .ok (.aload_n 0, 1) := by decide +kernel
theorem dX7_taps_8 : decode cX7_taps 8 = .ok (.iload_n 1, 1) := by decide +kernel
theorem dX7_taps_9 : decode cX7_taps 9 = .ok (.invokevirtual 34, 3) := by decide +kernel
theorem dX7_taps_12 : decode cX7_taps 12 = .ok (.if_icmp .ge 7, 3) := by decide +kernel
theorem dX7_taps_15 : decode cX7_taps 15 = .ok (.iload_n 3, 1) := by decide +kernel
theorem dX7_taps_16 : decode cX7_taps 16 = .ok (.goto 8, 3) := by decide +kernel
theorem dX7_taps_19 : decode cX7_taps 19 = .ok (.aload_n 0, 1) := by decide +kernel
theorem dX7_taps_20 : decode cX7_taps 20 = .ok (.iload_n 1, 1) := by decide +kernel
theorem dX7_taps_21 : decode cX7_taps 21 = .ok (.invokevirtual 34, 3) := by decide +kernel
theorem dX7_taps_24 : decode cX7_taps 24 = .ok (.istore 4, 2) := by decide +kernel
theorem dX7_taps_26 : decode cX7_taps 26 = .ok (.iload_n 2, 1) := by decide +kernel
theorem dX7_taps_27 : decode cX7_taps 27 = .ok (.ifCond .ne 20, 3) := by decide +kernel
theorem dX7_taps_30 : decode cX7_taps 30 = .ok (.aload_n 0, 1) := by decide +kernel
theorem dX7_taps_31 : decode cX7_taps 31 = .ok (.getfield 7, 3) := by decide +kernel
theorem dX7_taps_34 : decode cX7_taps 34 = .ok (.bipush 96, 2) := by decide +kernel
theorem dX7_taps_36 : decode cX7_taps 36 = .ok (.iload_n 1, 1) := by decide +kernel
theorem dX7_taps_37 : decode cX7_taps 37 = .ok (.iadd, 1) := by decide +kernel
theorem dX7_taps_38 : decode cX7_taps 38 = .ok (.iaload, 1) := by decide +kernel
theorem dX7_taps_39 : decode cX7_taps 39 = .ok (.ifCond .ne 8, 3) := by decide +kernel
theorem dX7_taps_42 : decode cX7_taps 42 = .ok (.iload 4, 2) := by decide +kernel
theorem dX7_taps_44 : decode cX7_taps 44 = .ok (.ifCond .ne 5, 3) := by decide +kernel
theorem dX7_taps_47 : decode cX7_taps 47 = .ok (.iconst 0, 1) := by decide +kernel
theorem dX7_taps_48 : decode cX7_taps 48 = .ok (.ireturn, 1) := by decide +kernel
theorem dX7_taps_49 : decode cX7_taps 49 = .ok (.aload_n 0, 1) := by decide +kernel
theorem dX7_taps_50 : decode cX7_taps 50 = .ok (.getfield 7, 3) := by decide +kernel
theorem dX7_taps_53 : decode cX7_taps 53 = .ok (.iconst 0, 1) := by decide +kernel
theorem dX7_taps_54 : decode cX7_taps 54 = .ok (.iaload, 1) := by decide +kernel
theorem dX7_taps_55 : decode cX7_taps 55 = .ok (.iload 4, 2) := by decide +kernel
theorem dX7_taps_57 : decode cX7_taps 57 = .ok (.imul, 1) := by decide +kernel
theorem dX7_taps_58 : decode cX7_taps 58 = .ok (.iload_n 3, 1) := by decide +kernel
theorem dX7_taps_59 : decode cX7_taps 59 = .ok (.idiv, 1) := by decide +kernel
theorem dX7_taps_60 : decode cX7_taps 60 = .ok (.istore 5, 2) := by decide +kernel
theorem dX7_taps_62 : decode cX7_taps 62 = .ok (.aload_n 0, 1) := by decide +kernel
theorem dX7_taps_63 : decode cX7_taps 63 = .ok (.getfield 7, 3) := by decide +kernel
theorem dX7_taps_66 : decode cX7_taps 66 = .ok (.iconst 1, 1) := by decide +kernel
theorem dX7_taps_67 : decode cX7_taps 67 = .ok (.iaload, 1) := by decide +kernel
theorem dX7_taps_68 : decode cX7_taps 68 = .ok (.iload 4, 2) := by decide +kernel
theorem dX7_taps_70 : decode cX7_taps 70 = .ok (.imul, 1) := by decide +kernel
theorem dX7_taps_71 : decode cX7_taps 71 = .ok (.iload_n 3, 1) := by decide +kernel
theorem dX7_taps_72 : decode cX7_taps 72 = .ok (.idiv, 1) := by decide +kernel
theorem dX7_taps_73 : decode cX7_taps 73 = .ok (.istore 6, 2) := by decide +kernel
theorem dX7_taps_75 : decode cX7_taps 75 = .ok (.iload 4, 2) := by decide +kernel
theorem dX7_taps_77 : decode cX7_taps 77 = .ok (.iload 5, 2) := by decide +kernel
theorem dX7_taps_79 : decode cX7_taps 79 = .ok (.isub, 1) := by decide +kernel
theorem dX7_taps_80 : decode cX7_taps 80 = .ok (.iload 6, 2) := by decide +kernel
theorem dX7_taps_82 : decode cX7_taps 82 = .ok (.isub, 1) := by decide +kernel
theorem dX7_taps_83 : decode cX7_taps 83 = .ok (.istore 7, 2) := by decide +kernel
theorem dX7_taps_85 : decode cX7_taps 85 = .ok (.iload 7, 2) := by decide +kernel
theorem dX7_taps_87 : decode cX7_taps 87 = .ok (.aload_n 0, 1) := by decide +kernel
theorem dX7_taps_88 : decode cX7_taps 88 = .ok (.getfield 7, 3) := by decide +kernel
theorem dX7_taps_91 : decode cX7_taps 91 = .ok (.iconst 2, 1) := by decide +kernel
theorem dX7_taps_92 : decode cX7_taps 92 = .ok (.iaload, 1) := by decide +kernel
theorem dX7_taps_93 : decode cX7_taps 93 = .ok (.if_icmp .le 69, 3) := by decide +kernel
theorem dX7_taps_96 : decode cX7_taps 96 = .ok (.iload 7, 2) := by decide +kernel
theorem dX7_taps_98 : decode cX7_taps 98 = .ok (.aload_n 0, 1) := by decide +kernel
theorem dX7_taps_99 : decode cX7_taps 99 = .ok (.getfield 7, 3) := by decide +kernel
theorem dX7_taps_102 : decode cX7_taps 102 = .ok (.iconst 2, 1) := by decide +kernel
theorem dX7_taps_103 : decode cX7_taps 103 = .ok (.iaload, 1) := by decide +kernel
theorem dX7_taps_104 : decode cX7_taps 104 = .ok (.isub, 1) := by decide +kernel
theorem dX7_taps_105 : decode cX7_taps 105 = .ok (.istore 8, 2) := by decide +kernel
theorem dX7_taps_107 : decode cX7_taps 107 = .ok (.aload_n 0, 1) := by decide +kernel
theorem dX7_taps_108 : decode cX7_taps 108 = .ok (.getfield 7, 3) := by decide +kernel
theorem dX7_taps_111 : decode cX7_taps 111 = .ok (.iconst 2, 1) := by decide +kernel
theorem dX7_taps_112 : decode cX7_taps 112 = .ok (.iaload, 1) := by decide +kernel
theorem dX7_taps_113 : decode cX7_taps 113 = .ok (.istore 7, 2) := by decide +kernel
theorem dX7_taps_115 : decode cX7_taps 115 = .ok (.iload 8, 2) := by decide +kernel
theorem dX7_taps_117 : decode cX7_taps 117 = .ok (.aload_n 0, 1) := by decide +kernel
theorem dX7_taps_118 : decode cX7_taps 118 = .ok (.getfield 7, 3) := by decide +kernel
theorem dX7_taps_121 : decode cX7_taps 121 = .ok (.iconst 1, 1) := by decide +kernel
theorem dX7_taps_122 : decode cX7_taps 122 = .ok (.iaload, 1) := by decide +kernel
theorem dX7_taps_123 : decode cX7_taps 123 = .ok (.iload 6, 2) := by decide +kernel
theorem dX7_taps_125 : decode cX7_taps 125 = .ok (.isub, 1) := by decide +kernel
theorem dX7_taps_126 : decode cX7_taps 126 = .ok (.if_icmp .ge 8, 3) := by decide +kernel
theorem dX7_taps_129 : decode cX7_taps 129 = .ok (.iload 8, 2) := by decide +kernel
theorem dX7_taps_131 : decode cX7_taps 131 = .ok (.goto 12, 3) := by decide +kernel
theorem dX7_taps_134 : decode cX7_taps 134 = .ok (.aload_n 0, 1) := by decide +kernel
theorem dX7_taps_135 : decode cX7_taps 135 = .ok (.getfield 7, 3) := by decide +kernel
theorem dX7_taps_138 : decode cX7_taps 138 = .ok (.iconst 1, 1) := by decide +kernel
theorem dX7_taps_139 : decode cX7_taps 139 = .ok (.iaload, 1) := by decide +kernel
theorem dX7_taps_140 : decode cX7_taps 140 = .ok (.iload 6, 2) := by decide +kernel
theorem dX7_taps_142 : decode cX7_taps 142 = .ok (.isub, 1) := by decide +kernel
theorem dX7_taps_143 : decode cX7_taps 143 = .ok (.istore 9, 2) := by decide +kernel
theorem dX7_taps_145 : decode cX7_taps 145 = .ok (.iload 6, 2) := by decide +kernel
theorem dX7_taps_147 : decode cX7_taps 147 = .ok (.iload 9, 2) := by decide +kernel
theorem dX7_taps_149 : decode cX7_taps 149 = .ok (.iadd, 1) := by decide +kernel
theorem dX7_taps_150 : decode cX7_taps 150 = .ok (.istore 6, 2) := by decide +kernel
theorem dX7_taps_152 : decode cX7_taps 152 = .ok (.iload 5, 2) := by decide +kernel
theorem dX7_taps_154 : decode cX7_taps 154 = .ok (.iload 8, 2) := by decide +kernel
theorem dX7_taps_156 : decode cX7_taps 156 = .ok (.iload 9, 2) := by decide +kernel
theorem dX7_taps_158 : decode cX7_taps 158 = .ok (.isub, 1) := by decide +kernel
theorem dX7_taps_159 : decode cX7_taps 159 = .ok (.iadd, 1) := by decide +kernel
theorem dX7_taps_160 : decode cX7_taps 160 = .ok (.istore 5, 2) := by decide +kernel
theorem dX7_taps_162 : decode cX7_taps 162 = .ok (.aload_n 0, 1) := by decide +kernel
theorem dX7_taps_163 : decode cX7_taps 163 = .ok (.iconst 0, 1) := by decide +kernel
theorem dX7_taps_164 : decode cX7_taps 164 = .ok (.bipush 16, 2) := by decide +kernel
theorem dX7_taps_166 : decode cX7_taps 166 = .ok (.iconst 4, 1) := by decide +kernel
theorem dX7_taps_167 : decode cX7_taps 167 = .ok (.iload_n 1, 1) := by decide +kernel
theorem dX7_taps_168 : decode cX7_taps 168 = .ok (.imul, 1) := by decide +kernel
theorem dX7_taps_169 : decode cX7_taps 169 = .ok (.iadd, 1) := by decide +kernel
theorem dX7_taps_170 : decode cX7_taps 170 = .ok (.iconst 0, 1) := by decide +kernel
theorem dX7_taps_171 : decode cX7_taps 171 = .ok (.iload 5, 2) := by decide +kernel
theorem dX7_taps_173 : decode cX7_taps 173 = .ok (.invokevirtual 37, 3) := by decide +kernel
theorem dX7_taps_176 : decode cX7_taps 176 = .ok (.aload_n 0, 1) := by decide +kernel
theorem dX7_taps_177 : decode cX7_taps 177 = .ok (.iconst 0, 1) := by decide +kernel
theorem dX7_taps_178 : decode cX7_taps 178 = .ok (.bipush 16, 2) := by decide +kernel
theorem dX7_taps_180 : decode cX7_taps 180 = .ok (.iconst 4, 1) := by decide +kernel
theorem dX7_taps_181 : decode cX7_taps 181 = .ok (.iload_n 1, 1) := by decide +kernel
theorem dX7_taps_182 : decode cX7_taps 182 = .ok (.imul, 1) := by decide +kernel
theorem dX7_taps_183 : decode cX7_taps 183 = .ok (.iadd, 1) := by decide +kernel
theorem dX7_taps_184 : decode cX7_taps 184 = .ok (.iconst 1, 1) := by decide +kernel
theorem dX7_taps_185 : decode cX7_taps 185 = .ok (.iload 6, 2) := by decide +kernel
theorem dX7_taps_187 : decode cX7_taps 187 = .ok (.invokevirtual 37, 3) := by decide +kernel
theorem dX7_taps_190 : decode cX7_taps 190 = .ok (.aload_n 0, 1) := by decide +kernel
theorem dX7_taps_191 : decode cX7_taps 191 = .ok (.iconst 0, 1) := by decide +kernel
theorem dX7_taps_192 : decode cX7_taps 192 = .ok (.bipush 16, 2) := by decide +kernel
theorem dX7_taps_194 : decode cX7_taps 194 = .ok (.iconst 4, 1) := by decide +kernel
theorem dX7_taps_195 : decode cX7_taps 195 = .ok (.iload_n 1, 1) := by decide +kernel
theorem dX7_taps_196 : decode cX7_taps 196 = .ok (.imul, 1) := by decide +kernel
theorem dX7_taps_197 : decode cX7_taps 197 = .ok (.iadd, 1) := by decide +kernel
theorem dX7_taps_198 : decode cX7_taps 198 = .ok (.iconst 2, 1) := by decide +kernel
theorem dX7_taps_199 : decode cX7_taps 199 = .ok (.iload 7, 2) := by decide +kernel
theorem dX7_taps_201 : decode cX7_taps 201 = .ok (.invokevirtual 37, 3) := by decide +kernel
theorem dX7_taps_204 : decode cX7_taps 204 = .ok (.aload_n 0, 1) := by decide +kernel
theorem dX7_taps_205 : decode cX7_taps 205 = .ok (.getfield 7, 3) := by decide +kernel
theorem dX7_taps_208 : decode cX7_taps 208 = .ok (.bipush 96, 2) := by decide +kernel
theorem dX7_taps_210 : decode cX7_taps 210 = .ok (.iload_n 1, 1) := by decide +kernel
theorem dX7_taps_211 : decode cX7_taps 211 = .ok (.iadd, 1) := by decide +kernel
theorem dX7_taps_212 : decode cX7_taps 212 = .ok (.iconst 1, 1) := by decide +kernel
theorem dX7_taps_213 : decode cX7_taps 213 = .ok (.iastore, 1) := by decide +kernel
theorem dX7_taps_214 : decode cX7_taps 214 = .ok (.iconst 1, 1) := by decide +kernel
theorem dX7_taps_215 : decode cX7_taps 215 = .ok (.ireturn, 1) := by decide +kernel
theorem dX7_moves_0 : decode cX7_moves 0 = .ok (.aload_n 0, 1) := by decide +kernel
theorem dX7_moves_1 : decode cX7_moves 1 = .ok (.getfield 7, 3) := by decide +kernel
theorem dX7_moves_4 : decode cX7_moves 4 = .ok (.iload_n 1, 1) := by decide +kernel
theorem dX7_moves_5 : decode cX7_moves 5 = .ok (.iload_n 3, 1) := by decide +kernel
theorem dX7_moves_6 : decode cX7_moves 6 = .ok (.iadd, 1) := by decide +kernel
theorem dX7_moves_7 : decode cX7_moves 7 = .ok (.dup2, 1) := by decide +kernel
theorem dX7_moves_8 : decode cX7_moves 8 = .ok (.iaload, 1) := by decide +kernel
theorem dX7_moves_9 : decode cX7_moves 9 = .ok (.iload 4, 2) := by decide +kernel
theorem dX7_moves_11 : decode cX7_moves 11 = .ok (.isub, 1) := by decide +kernel
theorem dX7_moves_12 : decode cX7_moves 12 = .ok (.iastore, 1) := by decide +kernel
theorem dX7_moves_13 : decode cX7_moves 13 = .ok (.aload_n 0, 1) := by decide +kernel
theorem dX7_moves_14 : decode cX7_moves 14 = .ok (.getfield 7, 3) := by decide +kernel
theorem dX7_moves_17 : decode cX7_moves 17 = .ok (.iload_n 2, 1) := by decide +kernel
theorem dX7_moves_18 : decode cX7_moves 18 = .ok (.iload_n 3, 1) := by decide +kernel
theorem dX7_moves_19 : decode cX7_moves 19 = .ok (.iadd, 1) := by decide +kernel
theorem dX7_moves_20 : decode cX7_moves 20 = .ok (.dup2, 1) := by decide +kernel
theorem dX7_moves_21 : decode cX7_moves 21 = .ok (.iaload, 1) := by decide +kernel
theorem dX7_moves_22 : decode cX7_moves 22 = .ok (.iload 4, 2) := by decide +kernel
theorem dX7_moves_24 : decode cX7_moves 24 = .ok (.iadd, 1) := by decide +kernel
theorem dX7_moves_25 : decode cX7_moves 25 = .ok (.iastore, 1) := by decide +kernel
theorem dX7_moves_26 : decode cX7_moves 26 = .ok (.return_, 1) := by decide +kernel
theorem dX7_skulls_0 : decode cX7_skulls 0 = .ok (.iload_n 2, 1) := by decide +kernel
theorem dX7_skulls_1 : decode cX7_skulls 1 = .ok (.istore_n 3, 1) := by decide +kernel
theorem dX7_skulls_2 : decode cX7_skulls 2 = .ok (.iconst 0, 1) := by decide +kernel
theorem dX7_skulls_3 : decode cX7_skulls 3 = .ok (.istore 4, 2) := by decide +kernel
theorem dX7_skulls_5 : decode cX7_skulls 5 = .ok (.iload 4, 2) := by decide +kernel
theorem dX7_skulls_7 : decode cX7_skulls 7 = .ok (.iconst 4, 1) := by decide +kernel
theorem dX7_skulls_8 : decode cX7_skulls 8 = .ok (.if_icmp .ge 72, 3) := by decide +kernel
theorem dX7_skulls_11 : decode cX7_skulls 11 = .ok (.aload_n 0, 1) := by decide +kernel
theorem dX7_skulls_12 : decode cX7_skulls 12 = .ok (.getfield 7, 3) := by decide +kernel
theorem dX7_skulls_15 : decode cX7_skulls 15 = .ok (.bipush 16, 2) := by decide +kernel
theorem dX7_skulls_17 : decode cX7_skulls 17 = .ok (.iconst 4, 1) := by decide +kernel
theorem dX7_skulls_18 : decode cX7_skulls 18 = .ok (.iload_n 1, 1) := by decide +kernel
theorem dX7_skulls_19 : decode cX7_skulls 19 = .ok (.imul, 1) := by decide +kernel
theorem dX7_skulls_20 : decode cX7_skulls 20 = .ok (.iadd, 1) := by decide +kernel
theorem dX7_skulls_21 : decode cX7_skulls 21 = .ok (.iload 4, 2) := by decide +kernel
theorem dX7_skulls_23 : decode cX7_skulls 23 = .ok (.iadd, 1) := by decide +kernel
theorem dX7_skulls_24 : decode cX7_skulls 24 = .ok (.iaload, 1) := by decide +kernel
theorem dX7_skulls_25 : decode cX7_skulls 25 = .ok (.iload_n 3, 1) := by decide +kernel
theorem dX7_skulls_26 : decode cX7_skulls 26 = .ok (.if_icmp .ge 20, 3) := by decide +kernel
theorem dX7_skulls_29 : decode cX7_skulls 29 = .ok (.aload_n 0, 1) := by decide +kernel
theorem dX7_skulls_30 : decode cX7_skulls 30 = .ok (.getfield 7, 3) := by decide +kernel
theorem dX7_skulls_33 : decode cX7_skulls 33 = .ok (.bipush 16, 2) := by decide +kernel
theorem dX7_skulls_35 : decode cX7_skulls 35 = .ok (.iconst 4, 1) := by decide +kernel
theorem dX7_skulls_36 : decode cX7_skulls 36 = .ok (.iload_n 1, 1) := by decide +kernel
theorem dX7_skulls_37 : decode cX7_skulls 37 = .ok (.imul, 1) := by decide +kernel
theorem dX7_skulls_38 : decode cX7_skulls 38 = .ok (.iadd, 1) := by decide +kernel
theorem dX7_skulls_39 : decode cX7_skulls 39 = .ok (.iload 4, 2) := by decide +kernel
theorem dX7_skulls_41 : decode cX7_skulls 41 = .ok (.iadd, 1) := by decide +kernel
theorem dX7_skulls_42 : decode cX7_skulls 42 = .ok (.iaload, 1) := by decide +kernel
theorem dX7_skulls_43 : decode cX7_skulls 43 = .ok (.goto 4, 3) := by decide +kernel
theorem dX7_skulls_46 : decode cX7_skulls 46 = .ok (.iload_n 3, 1) := by decide +kernel
theorem dX7_skulls_47 : decode cX7_skulls 47 = .ok (.istore 5, 2) := by decide +kernel
theorem dX7_skulls_49 : decode cX7_skulls 49 = .ok (.aload_n 0, 1) := by decide +kernel
theorem dX7_skulls_50 : decode cX7_skulls 50 = .ok (.bipush 16, 2) := by decide +kernel
theorem dX7_skulls_52 : decode cX7_skulls 52 = .ok (.iconst 4, 1) := by decide +kernel
theorem dX7_skulls_53 : decode cX7_skulls 53 = .ok (.iload_n 1, 1) := by decide +kernel
theorem dX7_skulls_54 : decode cX7_skulls 54 = .ok (.imul, 1) := by decide +kernel
theorem dX7_skulls_55 : decode cX7_skulls 55 = .ok (.iadd, 1) := by decide +kernel
theorem dX7_skulls_56 : decode cX7_skulls 56 = .ok (.bipush 32, 2) := by decide +kernel
theorem dX7_skulls_58 : decode cX7_skulls 58 = .ok (.iconst 4, 1) := by decide +kernel
theorem dX7_skulls_59 : decode cX7_skulls 59 = .ok (.iload_n 1, 1) := by decide +kernel
theorem dX7_skulls_60 : decode cX7_skulls 60 = .ok (.imul, 1) := by decide +kernel
theorem dX7_skulls_61 : decode cX7_skulls 61 = .ok (.iadd, 1) := by decide +kernel
theorem dX7_skulls_62 : decode cX7_skulls 62 = .ok (.iload 4, 2) := by decide +kernel
theorem dX7_skulls_64 : decode cX7_skulls 64 = .ok (.iload 5, 2) := by decide +kernel
theorem dX7_skulls_66 : decode cX7_skulls 66 = .ok (.invokevirtual 37, 3) := by decide +kernel
theorem dX7_skulls_69 : decode cX7_skulls 69 = .ok (.iload_n 3, 1) := by decide +kernel
theorem dX7_skulls_70 : decode cX7_skulls 70 = .ok (.iload 5, 2) := by decide +kernel
theorem dX7_skulls_72 : decode cX7_skulls 72 = .ok (.isub, 1) := by decide +kernel
theorem dX7_skulls_73 : decode cX7_skulls 73 = .ok (.istore_n 3, 1) := by decide +kernel
theorem dX7_skulls_74 : decode cX7_skulls 74 = .ok (.iinc 4 1, 3) := by decide +kernel
theorem dX7_skulls_77 : decode cX7_skulls 77 = .ok (.goto (-72), 3) := by decide +kernel
theorem dX7_skulls_80 : decode cX7_skulls 80 = .ok (.return_, 1) := by decide +kernel
theorem dX7_pours_0 : decode cX7_pours 0 = .ok (.aload_n 0, 1) := by decide +kernel
theorem dX7_pours_1 : decode cX7_pours 1 = .ok (.bipush 16, 2) := by decide +kernel
theorem dX7_pours_3 : decode cX7_pours 3 = .ok (.iconst 4, 1) := by decide +kernel
theorem dX7_pours_4 : decode cX7_pours 4 = .ok (.iload_n 1, 1) := by decide +kernel
theorem dX7_pours_5 : decode cX7_pours 5 = .ok (.imul, 1) := by decide +kernel
theorem dX7_pours_6 : decode cX7_pours 6 = .ok (.iadd, 1) := by decide +kernel
theorem dX7_pours_7 : decode cX7_pours 7 = .ok (.invokevirtual 20, 3) := by decide +kernel
theorem dX7_pours_10 : decode cX7_pours 10 = .ok (.istore_n 3, 1) := by decide +kernel
theorem dX7_pours_11 : decode cX7_pours 11 = .ok (.iload_n 3, 1) := by decide +kernel
theorem dX7_pours_12 : decode cX7_pours 12 = .ok (.iconst 2, 1) := by decide +kernel
theorem dX7_pours_13 : decode cX7_pours 13 = .ok (.if_icmp .ge 7, 3) := by decide +kernel
theorem dX7_pours_16 : decode cX7_pours 16 = .ok (.iload_n 3, 1) := by decide +kernel
theorem dX7_pours_17 : decode cX7_pours 17 = .ok (.goto 4, 3) := by decide +kernel
theorem dX7_pours_20 : decode cX7_pours 20 = .ok (.iconst 2, 1) := by decide +kernel
theorem dX7_pours_21 : decode cX7_pours 21 = .ok (.istore 4, 2) := by decide +kernel
theorem dX7_pours_23 : decode cX7_pours 23 = .ok (.bipush 20, 2) := by decide +kernel
theorem dX7_pours_25 : decode cX7_pours 25 = .ok (.aload_n 0, 1) := by decide +kernel
theorem dX7_pours_26 : decode cX7_pours 26 = .ok (.bipush 32, 2) := by decide +kernel
theorem dX7_pours_28 : decode cX7_pours 28 = .ok (.iconst 4, 1) := by decide +kernel
theorem dX7_pours_29 : decode cX7_pours 29 = .ok (.iload_n 1, 1) := by decide +kernel
theorem dX7_pours_30 : decode cX7_pours 30 = .ok (.imul, 1) := by decide +kernel
theorem dX7_pours_31 : decode cX7_pours 31 = .ok (.iadd, 1) := by decide +kernel
theorem dX7_pours_32 : decode cX7_pours 32 = .ok (.invokevirtual 20, 3) := by decide +kernel
theorem dX7_pours_35 : decode cX7_pours 35 = .ok (.isub, 1) := by decide +kernel
theorem dX7_pours_36 : decode cX7_pours 36 = .ok (.istore 5, 2) := by decide +kernel
theorem dX7_pours_38 : decode cX7_pours 38 = .ok (.iload 5, 2) := by decide +kernel
theorem dX7_pours_40 : decode cX7_pours 40 = .ok (.iload 4, 2) := by decide +kernel
theorem dX7_pours_42 : decode cX7_pours 42 = .ok (.if_icmp .ge 8, 3) := by decide +kernel
theorem dX7_pours_45 : decode cX7_pours 45 = .ok (.iload 5, 2) := by decide +kernel
theorem dX7_pours_47 : decode cX7_pours 47 = .ok (.goto 5, 3) := by decide +kernel
theorem dX7_pours_50 : decode cX7_pours 50 = .ok (.iload 4, 2) := by decide +kernel
theorem dX7_pours_52 : decode cX7_pours 52 = .ok (.istore 4, 2) := by decide +kernel
theorem dX7_pours_54 : decode cX7_pours 54 = .ok (.iload_n 3, 1) := by decide +kernel
theorem dX7_pours_55 : decode cX7_pours 55 = .ok (.iload 4, 2) := by decide +kernel
theorem dX7_pours_57 : decode cX7_pours 57 = .ok (.isub, 1) := by decide +kernel
theorem dX7_pours_58 : decode cX7_pours 58 = .ok (.istore 6, 2) := by decide +kernel
theorem dX7_pours_60 : decode cX7_pours 60 = .ok (.iload_n 2, 1) := by decide +kernel
theorem dX7_pours_61 : decode cX7_pours 61 = .ok (.invokestatic 24, 3) := by decide +kernel
theorem dX7_pours_64 : decode cX7_pours 64 = .ok (.istore 7, 2) := by decide +kernel
theorem dX7_pours_66 : decode cX7_pours 66 = .ok (.aload_n 0, 1) := by decide +kernel
theorem dX7_pours_67 : decode cX7_pours 67 = .ok (.getfield 7, 3) := by decide +kernel
theorem dX7_pours_70 : decode cX7_pours 70 = .ok (.bipush 96, 2) := by decide +kernel
theorem dX7_pours_72 : decode cX7_pours 72 = .ok (.iload_n 1, 1) := by decide +kernel
theorem dX7_pours_73 : decode cX7_pours 73 = .ok (.iadd, 1) := by decide +kernel
theorem dX7_pours_74 : decode cX7_pours 74 = .ok (.iaload, 1) := by decide +kernel
theorem dX7_pours_75 : decode cX7_pours 75 = .ok (.iconst 1, 1) := by decide +kernel
theorem dX7_pours_76 : decode cX7_pours 76 = .ok (.if_icmp .ne 17, 3) := by decide +kernel
theorem dX7_pours_79 : decode cX7_pours 79 = .ok (.iload 7, 2) := by decide +kernel
theorem dX7_pours_81 : decode cX7_pours 81 = .ok (.ifCond .lt 12, 3) := by decide +kernel
theorem dX7_pours_84 : decode cX7_pours 84 = .ok (.iconst 4, 1) := by decide +kernel
theorem dX7_pours_85 : decode cX7_pours 85 = .ok (.iconst 4, 1) := by decide +kernel
theorem dX7_pours_86 : decode cX7_pours 86 = .ok (.iload 7, 2) := by decide +kernel
theorem dX7_pours_88 : decode cX7_pours 88 = .ok (.imul, 1) := by decide +kernel
theorem dX7_pours_89 : decode cX7_pours 89 = .ok (.iadd, 1) := by decide +kernel
theorem dX7_pours_90 : decode cX7_pours 90 = .ok (.goto 73, 3) := by decide +kernel
theorem dX7_pours_93 : decode cX7_pours 93 = .ok (.aload_n 0, 1) := by decide +kernel
theorem dX7_pours_94 : decode cX7_pours 94 = .ok (.getfield 7, 3) := by decide +kernel
theorem dX7_pours_97 : decode cX7_pours 97 = .ok (.bipush 96, 2) := by decide +kernel
theorem dX7_pours_99 : decode cX7_pours 99 = .ok (.iload_n 1, 1) := by decide +kernel
theorem dX7_pours_100 : decode cX7_pours 100 = .ok (.iadd, 1) := by decide +kernel
theorem dX7_pours_101 : decode cX7_pours 101 = .ok (.iaload, 1) := by decide +kernel
theorem dX7_pours_102 : decode cX7_pours 102 = .ok (.iconst 2, 1) := by decide +kernel
theorem dX7_pours_103 : decode cX7_pours 103 = .ok (.if_icmp .ne 13, 3) := by decide +kernel
theorem dX7_pours_106 : decode cX7_pours 106 = .ok (.iload_n 2, 1) := by decide +kernel
theorem dX7_pours_107 : decode cX7_pours 107 = .ok (.iconst 2, 1) := by decide +kernel
theorem dX7_pours_108 : decode cX7_pours 108 = .ok (.if_icmp .ne 8, 3) := by decide +kernel
theorem dX7_pours_111 : decode cX7_pours 111 = .ok (.bipush 52, 2) := by decide +kernel
theorem dX7_pours_113 : decode cX7_pours 113 = .ok (.goto 50, 3) := by decide +kernel
theorem dX7_pours_116 : decode cX7_pours 116 = .ok (.aload_n 0, 1) := by decide +kernel
theorem dX7_pours_117 : decode cX7_pours 117 = .ok (.getfield 7, 3) := by decide +kernel
theorem dX7_pours_120 : decode cX7_pours 120 = .ok (.bipush 96, 2) := by decide +kernel
theorem dX7_pours_122 : decode cX7_pours 122 = .ok (.iload_n 1, 1) := by decide +kernel
theorem dX7_pours_123 : decode cX7_pours 123 = .ok (.iadd, 1) := by decide +kernel
theorem dX7_pours_124 : decode cX7_pours 124 = .ok (.iaload, 1) := by decide +kernel
theorem dX7_pours_125 : decode cX7_pours 125 = .ok (.iconst 2, 1) := by decide +kernel
theorem dX7_pours_126 : decode cX7_pours 126 = .ok (.if_icmp .ne 12, 3) := by decide +kernel
theorem dX7_pours_129 : decode cX7_pours 129 = .ok (.iload_n 2, 1) := by decide +kernel
theorem dX7_pours_130 : decode cX7_pours 130 = .ok (.ifCond .ne 8, 3) := by decide +kernel
theorem dX7_pours_133 : decode cX7_pours 133 = .ok (.bipush 56, 2) := by decide +kernel
theorem dX7_pours_135 : decode cX7_pours 135 = .ok (.goto 28, 3) := by decide +kernel
theorem dX7_pours_138 : decode cX7_pours 138 = .ok (.aload_n 0, 1) := by decide +kernel
theorem dX7_pours_139 : decode cX7_pours 139 = .ok (.getfield 7, 3) := by decide +kernel
theorem dX7_pours_142 : decode cX7_pours 142 = .ok (.bipush 96, 2) := by decide +kernel
theorem dX7_pours_144 : decode cX7_pours 144 = .ok (.iload_n 1, 1) := by decide +kernel
theorem dX7_pours_145 : decode cX7_pours 145 = .ok (.iadd, 1) := by decide +kernel
theorem dX7_pours_146 : decode cX7_pours 146 = .ok (.iaload, 1) := by decide +kernel
theorem dX7_pours_147 : decode cX7_pours 147 = .ok (.iconst 3, 1) := by decide +kernel
theorem dX7_pours_148 : decode cX7_pours 148 = .ok (.if_icmp .ne 14, 3) := by decide +kernel
theorem dX7_pours_151 : decode cX7_pours 151 = .ok (.iload_n 2, 1) := by decide +kernel
theorem dX7_pours_152 : decode cX7_pours 152 = .ok (.bipush 15, 2) := by decide +kernel
theorem dX7_pours_154 : decode cX7_pours 154 = .ok (.if_icmp .ne 8, 3) := by decide +kernel
theorem dX7_pours_157 : decode cX7_pours 157 = .ok (.bipush 48, 2) := by decide +kernel
theorem dX7_pours_159 : decode cX7_pours 159 = .ok (.goto 4, 3) := by decide +kernel
theorem dX7_pours_162 : decode cX7_pours 162 = .ok (.iconst (-1), 1) := by decide +kernel
theorem dX7_pours_163 : decode cX7_pours 163 = .ok (.istore 8, 2) := by decide +kernel
theorem dX7_pours_165 : decode cX7_pours 165 = .ok (.iload 8, 2) := by decide +kernel
theorem dX7_pours_167 : decode cX7_pours 167 = .ok (.ifCond .lt 23, 3) := by decide +kernel
theorem dX7_pours_170 : decode cX7_pours 170 = .ok (.iload 7, 2) := by decide +kernel
theorem dX7_pours_172 : decode cX7_pours 172 = .ok (.ifCond .lt 20, 3) := by decide +kernel
theorem dX7_pours_175 : decode cX7_pours 175 = .ok (.aload_n 0, 1) := by decide +kernel
theorem dX7_pours_176 : decode cX7_pours 176 = .ok (.iload 8, 2) := by decide +kernel
theorem dX7_pours_178 : decode cX7_pours 178 = .ok (.invokevirtual 20, 3) := by decide +kernel
theorem dX7_pours_181 : decode cX7_pours 181 = .ok (.iload 6, 2) := by decide +kernel
theorem dX7_pours_183 : decode cX7_pours 183 = .ok (.iadd, 1) := by decide +kernel
theorem dX7_pours_184 : decode cX7_pours 184 = .ok (.sipush 300, 3) := by decide +kernel
theorem dX7_pours_187 : decode cX7_pours 187 = .ok (.if_icmp .le 5, 3) := by decide +kernel
theorem dX7_pours_190 : decode cX7_pours 190 = .ok (.iconst 0, 1) := by decide +kernel
theorem dX7_pours_191 : decode cX7_pours 191 = .ok (.ireturn, 1) := by decide +kernel
theorem dX7_pours_192 : decode cX7_pours 192 = .ok (.iload 7, 2) := by decide +kernel
theorem dX7_pours_194 : decode cX7_pours 194 = .ok (.ifCond .lt 52, 3) := by decide +kernel
theorem dX7_pours_197 : decode cX7_pours 197 = .ok (.iload 6, 2) := by decide +kernel
theorem dX7_pours_199 : decode cX7_pours 199 = .ok (.ifCond .le 47, 3) := by decide +kernel
theorem dX7_pours_202 : decode cX7_pours 202 = .ok (.aload_n 0, 1) := by decide +kernel
theorem dX7_pours_203 : decode cX7_pours 203 = .ok (.getfield 7, 3) := by decide +kernel
theorem dX7_pours_206 : decode cX7_pours 206 = .ok (.bipush 76, 2) := by decide +kernel
theorem dX7_pours_208 : decode cX7_pours 208 = .ok (.iload 7, 2) := by decide +kernel
theorem dX7_pours_210 : decode cX7_pours 210 = .ok (.iadd, 1) := by decide +kernel
theorem dX7_pours_211 : decode cX7_pours 211 = .ok (.aload_n 0, 1) := by decide +kernel
theorem dX7_pours_212 : decode cX7_pours 212 = .ok (.getfield 7, 3) := by decide +kernel
theorem dX7_pours_215 : decode cX7_pours 215 = .ok (.bipush 76, 2) := by decide +kernel
theorem dX7_pours_217 : decode cX7_pours 217 = .ok (.iload 7, 2) := by decide +kernel
theorem dX7_pours_219 : decode cX7_pours 219 = .ok (.iadd, 1) := by decide +kernel
theorem dX7_pours_220 : decode cX7_pours 220 = .ok (.iaload, 1) := by decide +kernel
theorem dX7_pours_221 : decode cX7_pours 221 = .ok (.aload_n 0, 1) := by decide +kernel
theorem dX7_pours_222 : decode cX7_pours 222 = .ok (.iload 8, 2) := by decide +kernel
theorem dX7_pours_224 : decode cX7_pours 224 = .ok (.invokevirtual 20, 3) := by decide +kernel
theorem dX7_pours_227 : decode cX7_pours 227 = .ok (.imul, 1) := by decide +kernel
theorem dX7_pours_228 : decode cX7_pours 228 = .ok (.sipush 1150, 3) := by decide +kernel
theorem dX7_pours_231 : decode cX7_pours 231 = .ok (.iload 6, 2) := by decide +kernel
theorem dX7_pours_233 : decode cX7_pours 233 = .ok (.imul, 1) := by decide +kernel
theorem dX7_pours_234 : decode cX7_pours 234 = .ok (.iadd, 1) := by decide +kernel
theorem dX7_pours_235 : decode cX7_pours 235 = .ok (.aload_n 0, 1) := by decide +kernel
theorem dX7_pours_236 : decode cX7_pours 236 = .ok (.iload 8, 2) := by decide +kernel
theorem dX7_pours_238 : decode cX7_pours 238 = .ok (.invokevirtual 20, 3) := by decide +kernel
theorem dX7_pours_241 : decode cX7_pours 241 = .ok (.iload 6, 2) := by decide +kernel
theorem dX7_pours_243 : decode cX7_pours 243 = .ok (.iadd, 1) := by decide +kernel
theorem dX7_pours_244 : decode cX7_pours 244 = .ok (.idiv, 1) := by decide +kernel
theorem dX7_pours_245 : decode cX7_pours 245 = .ok (.iastore, 1) := by decide +kernel
theorem dX7_pours_246 : decode cX7_pours 246 = .ok (.aload_n 0, 1) := by decide +kernel
theorem dX7_pours_247 : decode cX7_pours 247 = .ok (.iload_n 1, 1) := by decide +kernel
theorem dX7_pours_248 : decode cX7_pours 248 = .ok (.iload 4, 2) := by decide +kernel
theorem dX7_pours_250 : decode cX7_pours 250 = .ok (.invokevirtual 41, 3) := by decide +kernel
theorem dX7_pours_253 : decode cX7_pours 253 = .ok (.iconst 0, 1) := by decide +kernel
theorem dX7_pours_254 : decode cX7_pours 254 = .ok (.istore 9, 2) := by decide +kernel
theorem dX7_pours_256 : decode cX7_pours 256 = .ok (.iload 9, 2) := by decide +kernel
theorem dX7_pours_258 : decode cX7_pours 258 = .ok (.iconst 4, 1) := by decide +kernel
theorem dX7_pours_259 : decode cX7_pours 259 = .ok (.if_icmp .ge 37, 3) := by decide +kernel
theorem dX7_pours_262 : decode cX7_pours 262 = .ok (.aload_n 0, 1) := by decide +kernel
theorem dX7_pours_263 : decode cX7_pours 263 = .ok (.bipush 16, 2) := by decide +kernel
theorem dX7_pours_265 : decode cX7_pours 265 = .ok (.iconst 4, 1) := by decide +kernel
theorem dX7_pours_266 : decode cX7_pours 266 = .ok (.iload_n 1, 1) := by decide +kernel
theorem dX7_pours_267 : decode cX7_pours 267 = .ok (.imul, 1) := by decide +kernel
theorem dX7_pours_268 : decode cX7_pours 268 = .ok (.iadd, 1) := by decide +kernel
theorem dX7_pours_269 : decode cX7_pours 269 = .ok (.iload 8, 2) := by decide +kernel
theorem dX7_pours_271 : decode cX7_pours 271 = .ok (.iload 9, 2) := by decide +kernel
theorem dX7_pours_273 : decode cX7_pours 273 = .ok (.aload_n 0, 1) := by decide +kernel
theorem dX7_pours_274 : decode cX7_pours 274 = .ok (.getfield 7, 3) := by decide +kernel
theorem dX7_pours_277 : decode cX7_pours 277 = .ok (.bipush 16, 2) := by decide +kernel
theorem dX7_pours_279 : decode cX7_pours 279 = .ok (.iconst 4, 1) := by decide +kernel
theorem dX7_pours_280 : decode cX7_pours 280 = .ok (.iload_n 1, 1) := by decide +kernel
theorem dX7_pours_281 : decode cX7_pours 281 = .ok (.imul, 1) := by decide +kernel
theorem dX7_pours_282 : decode cX7_pours 282 = .ok (.iadd, 1) := by decide +kernel
theorem dX7_pours_283 : decode cX7_pours 283 = .ok (.iload 9, 2) := by decide +kernel
theorem dX7_pours_285 : decode cX7_pours 285 = .ok (.iadd, 1) := by decide +kernel
theorem dX7_pours_286 : decode cX7_pours 286 = .ok (.iaload, 1) := by decide +kernel
theorem dX7_pours_287 : decode cX7_pours 287 = .ok (.invokevirtual 37, 3) := by decide +kernel
theorem dX7_pours_290 : decode cX7_pours 290 = .ok (.iinc 9 1, 3) := by decide +kernel
theorem dX7_pours_293 : decode cX7_pours 293 = .ok (.goto (-37), 3) := by decide +kernel
theorem dX7_pours_296 : decode cX7_pours 296 = .ok (.aload_n 0, 1) := by decide +kernel
theorem dX7_pours_297 : decode cX7_pours 297 = .ok (.getfield 7, 3) := by decide +kernel
theorem dX7_pours_300 : decode cX7_pours 300 = .ok (.bipush 96, 2) := by decide +kernel
theorem dX7_pours_302 : decode cX7_pours 302 = .ok (.iload_n 1, 1) := by decide +kernel
theorem dX7_pours_303 : decode cX7_pours 303 = .ok (.iadd, 1) := by decide +kernel
theorem dX7_pours_304 : decode cX7_pours 304 = .ok (.iconst 0, 1) := by decide +kernel
theorem dX7_pours_305 : decode cX7_pours 305 = .ok (.iastore, 1) := by decide +kernel
theorem dX7_pours_306 : decode cX7_pours 306 = .ok (.iconst 1, 1) := by decide +kernel
theorem dX7_pours_307 : decode cX7_pours 307 = .ok (.ireturn, 1) := by decide +kernel
theorem dX7_skims_0 : decode cX7_skims 0 = .ok (.iload_n 2, 1) := by decide +kernel
theorem dX7_skims_1 : decode cX7_skims 1 = .ok (.invokestatic 24, 3) := by decide +kernel
theorem dX7_skims_4 : decode cX7_skims 4 = .ok (.istore_n 3, 1) := by decide +kernel
theorem dX7_skims_5 : decode cX7_skims 5 = .ok (.iload_n 3, 1) := by decide +kernel
theorem dX7_skims_6 : decode cX7_skims 6 = .ok (.ifCond .lt 28, 3) := by decide +kernel
theorem dX7_skims_9 : decode cX7_skims 9 = .ok (.aload_n 0, 1) := by decide +kernel
theorem dX7_skims_10 : decode cX7_skims 10 = .ok (.getfield 7, 3) := by decide +kernel
theorem dX7_skims_13 : decode cX7_skims 13 = .ok (.bipush 96, 2) := by decide +kernel
theorem dX7_skims_15 : decode cX7_skims 15 = .ok (.iload_n 1, 1) := by decide +kernel
theorem dX7_skims_16 : decode cX7_skims 16 = .ok (.iadd, 1) := by decide +kernel
theorem dX7_skims_17 : decode cX7_skims 17 = .ok (.iaload, 1) := by decide +kernel
theorem dX7_skims_18 : decode cX7_skims 18 = .ok (.ifCond .eq 18, 3) := by decide +kernel
theorem dX7_skims_21 : decode cX7_skims 21 = .ok (.aload_n 0, 1) := by decide +kernel
theorem dX7_skims_22 : decode cX7_skims 22 = .ok (.getfield 7, 3) := by decide +kernel
theorem dX7_skims_25 : decode cX7_skims 25 = .ok (.bipush 96, 2) := by decide +kernel
theorem dX7_skims_27 : decode cX7_skims 27 = .ok (.iload_n 1, 1) := by decide +kernel
theorem dX7_skims_28 : decode cX7_skims 28 = .ok (.iadd, 1) := by decide +kernel
theorem dX7_skims_29 : decode cX7_skims 29 = .ok (.iaload, 1) := by decide +kernel
theorem dX7_skims_30 : decode cX7_skims 30 = .ok (.iconst 2, 1) := by decide +kernel
theorem dX7_skims_31 : decode cX7_skims 31 = .ok (.if_icmp .eq 5, 3) := by decide +kernel
theorem dX7_skims_34 : decode cX7_skims 34 = .ok (.iconst 0, 1) := by decide +kernel
theorem dX7_skims_35 : decode cX7_skims 35 = .ok (.ireturn, 1) := by decide +kernel
theorem dX7_skims_36 : decode cX7_skims 36 = .ok (.aload_n 0, 1) := by decide +kernel
theorem dX7_skims_37 : decode cX7_skims 37 = .ok (.getfield 7, 3) := by decide +kernel
theorem dX7_skims_40 : decode cX7_skims 40 = .ok (.iconst 4, 1) := by decide +kernel
theorem dX7_skims_41 : decode cX7_skims 41 = .ok (.iconst 4, 1) := by decide +kernel
theorem dX7_skims_42 : decode cX7_skims 42 = .ok (.iload_n 3, 1) := by decide +kernel
theorem dX7_skims_43 : decode cX7_skims 43 = .ok (.imul, 1) := by decide +kernel
theorem dX7_skims_44 : decode cX7_skims 44 = .ok (.iadd, 1) := by decide +kernel
theorem dX7_skims_45 : decode cX7_skims 45 = .ok (.iconst 3, 1) := by decide +kernel
theorem dX7_skims_46 : decode cX7_skims 46 = .ok (.iadd, 1) := by decide +kernel
theorem dX7_skims_47 : decode cX7_skims 47 = .ok (.iaload, 1) := by decide +kernel
theorem dX7_skims_48 : decode cX7_skims 48 = .ok (.aload_n 0, 1) := by decide +kernel
theorem dX7_skims_49 : decode cX7_skims 49 = .ok (.iload_n 1, 1) := by decide +kernel
theorem dX7_skims_50 : decode cX7_skims 50 = .ok (.invokevirtual 34, 3) := by decide +kernel
theorem dX7_skims_53 : decode cX7_skims 53 = .ok (.if_icmp .ge 18, 3) := by decide +kernel
theorem dX7_skims_56 : decode cX7_skims 56 = .ok (.aload_n 0, 1) := by decide +kernel
theorem dX7_skims_57 : decode cX7_skims 57 = .ok (.getfield 7, 3) := by decide +kernel
theorem dX7_skims_60 : decode cX7_skims 60 = .ok (.iconst 4, 1) := by decide +kernel
theorem dX7_skims_61 : decode cX7_skims 61 = .ok (.iconst 4, 1) := by decide +kernel
theorem dX7_skims_62 : decode cX7_skims 62 = .ok (.iload_n 3, 1) := by decide +kernel
theorem dX7_skims_63 : decode cX7_skims 63 = .ok (.imul, 1) := by decide +kernel
theorem dX7_skims_64 : decode cX7_skims 64 = .ok (.iadd, 1) := by decide +kernel
theorem dX7_skims_65 : decode cX7_skims 65 = .ok (.iconst 3, 1) := by decide +kernel
theorem dX7_skims_66 : decode cX7_skims 66 = .ok (.iadd, 1) := by decide +kernel
theorem dX7_skims_67 : decode cX7_skims 67 = .ok (.iaload, 1) := by decide +kernel
theorem dX7_skims_68 : decode cX7_skims 68 = .ok (.goto 8, 3) := by decide +kernel
theorem dX7_skims_71 : decode cX7_skims 71 = .ok (.aload_n 0, 1) := by decide +kernel
theorem dX7_skims_72 : decode cX7_skims 72 = .ok (.iload_n 1, 1) := by decide +kernel
theorem dX7_skims_73 : decode cX7_skims 73 = .ok (.invokevirtual 34, 3) := by decide +kernel
theorem dX7_skims_76 : decode cX7_skims 76 = .ok (.istore 4, 2) := by decide +kernel
theorem dX7_skims_78 : decode cX7_skims 78 = .ok (.iload 4, 2) := by decide +kernel
theorem dX7_skims_80 : decode cX7_skims 80 = .ok (.ifCond .ne 5, 3) := by decide +kernel
theorem dX7_skims_83 : decode cX7_skims 83 = .ok (.iconst 0, 1) := by decide +kernel
theorem dX7_skims_84 : decode cX7_skims 84 = .ok (.ireturn, 1) := by decide +kernel
theorem dX7_skims_85 : decode cX7_skims 85 = .ok (.aload_n 0, 1) := by decide +kernel
theorem dX7_skims_86 : decode cX7_skims 86 = .ok (.iconst 4, 1) := by decide +kernel
theorem dX7_skims_87 : decode cX7_skims 87 = .ok (.iconst 4, 1) := by decide +kernel
theorem dX7_skims_88 : decode cX7_skims 88 = .ok (.iload_n 3, 1) := by decide +kernel
theorem dX7_skims_89 : decode cX7_skims 89 = .ok (.imul, 1) := by decide +kernel
theorem dX7_skims_90 : decode cX7_skims 90 = .ok (.iadd, 1) := by decide +kernel
theorem dX7_skims_91 : decode cX7_skims 91 = .ok (.bipush 16, 2) := by decide +kernel
theorem dX7_skims_93 : decode cX7_skims 93 = .ok (.iconst 4, 1) := by decide +kernel
theorem dX7_skims_94 : decode cX7_skims 94 = .ok (.iload_n 1, 1) := by decide +kernel
theorem dX7_skims_95 : decode cX7_skims 95 = .ok (.imul, 1) := by decide +kernel
theorem dX7_skims_96 : decode cX7_skims 96 = .ok (.iadd, 1) := by decide +kernel
theorem dX7_skims_97 : decode cX7_skims 97 = .ok (.iconst 3, 1) := by decide +kernel
theorem dX7_skims_98 : decode cX7_skims 98 = .ok (.iload 4, 2) := by decide +kernel
theorem dX7_skims_100 : decode cX7_skims 100 = .ok (.invokevirtual 37, 3) := by decide +kernel
theorem dX7_skims_103 : decode cX7_skims 103 = .ok (.aload_n 0, 1) := by decide +kernel
theorem dX7_skims_104 : decode cX7_skims 104 = .ok (.getfield 7, 3) := by decide +kernel
theorem dX7_skims_107 : decode cX7_skims 107 = .ok (.bipush 96, 2) := by decide +kernel
theorem dX7_skims_109 : decode cX7_skims 109 = .ok (.iload_n 1, 1) := by decide +kernel
theorem dX7_skims_110 : decode cX7_skims 110 = .ok (.iadd, 1) := by decide +kernel
theorem dX7_skims_111 : decode cX7_skims 111 = .ok (.iconst 2, 1) := by decide +kernel
theorem dX7_skims_112 : decode cX7_skims 112 = .ok (.iastore, 1) := by decide +kernel
theorem dX7_skims_113 : decode cX7_skims 113 = .ok (.iconst 1, 1) := by decide +kernel
theorem dX7_skims_114 : decode cX7_skims 114 = .ok (.ireturn, 1) := by decide +kernel
theorem dX7_draws_0 : decode cX7_draws 0 = .ok (.iload_n 2, 1) := by decide +kernel
theorem dX7_draws_1 : decode cX7_draws 1 = .ok (.invokestatic 24, 3) := by decide +kernel
theorem dX7_draws_4 : decode cX7_draws 4 = .ok (.istore_n 3, 1) := by decide +kernel
theorem dX7_draws_5 : decode cX7_draws 5 = .ok (.iload_n 3, 1) := by decide +kernel
theorem dX7_draws_6 : decode cX7_draws 6 = .ok (.ifCond .lt 28, 3) := by decide +kernel
theorem dX7_draws_9 : decode cX7_draws 9 = .ok (.aload_n 0, 1) := by decide +kernel
theorem dX7_draws_10 : decode cX7_draws 10 = .ok (.getfield 7, 3) := by decide +kernel
theorem dX7_draws_13 : decode cX7_draws 13 = .ok (.bipush 96, 2) := by decide +kernel
theorem dX7_draws_15 : decode cX7_draws 15 = .ok (.iload_n 1, 1) := by decide +kernel
theorem dX7_draws_16 : decode cX7_draws 16 = .ok (.iadd, 1) := by decide +kernel
theorem dX7_draws_17 : decode cX7_draws 17 = .ok (.iaload, 1) := by decide +kernel
theorem dX7_draws_18 : decode cX7_draws 18 = .ok (.ifCond .ne 16, 3) := by decide +kernel
theorem dX7_draws_21 : decode cX7_draws 21 = .ok (.aload_n 0, 1) := by decide +kernel
theorem dX7_draws_22 : decode cX7_draws 22 = .ok (.getfield 7, 3) := by decide +kernel
theorem dX7_draws_25 : decode cX7_draws 25 = .ok (.bipush 79, 2) := by decide +kernel
theorem dX7_draws_27 : decode cX7_draws 27 = .ok (.iload_n 3, 1) := by decide +kernel
theorem dX7_draws_28 : decode cX7_draws 28 = .ok (.iadd, 1) := by decide +kernel
theorem dX7_draws_29 : decode cX7_draws 29 = .ok (.iaload, 1) := by decide +kernel
theorem dX7_draws_30 : decode cX7_draws 30 = .ok (.iconst 1, 1) := by decide +kernel
theorem dX7_draws_31 : decode cX7_draws 31 = .ok (.if_icmp .ne 5, 3) := by decide +kernel
theorem dX7_draws_34 : decode cX7_draws 34 = .ok (.iconst 0, 1) := by decide +kernel
theorem dX7_draws_35 : decode cX7_draws 35 = .ok (.ireturn, 1) := by decide +kernel
theorem dX7_draws_36 : decode cX7_draws 36 = .ok (.aload_n 0, 1) := by decide +kernel
theorem dX7_draws_37 : decode cX7_draws 37 = .ok (.getfield 7, 3) := by decide +kernel
theorem dX7_draws_40 : decode cX7_draws 40 = .ok (.iconst 4, 1) := by decide +kernel
theorem dX7_draws_41 : decode cX7_draws 41 = .ok (.iconst 4, 1) := by decide +kernel
theorem dX7_draws_42 : decode cX7_draws 42 = .ok (.iload_n 3, 1) := by decide +kernel
theorem dX7_draws_43 : decode cX7_draws 43 = .ok (.imul, 1) := by decide +kernel
theorem dX7_draws_44 : decode cX7_draws 44 = .ok (.iadd, 1) := by decide +kernel
theorem dX7_draws_45 : decode cX7_draws 45 = .ok (.iaload, 1) := by decide +kernel
theorem dX7_draws_46 : decode cX7_draws 46 = .ok (.istore 4, 2) := by decide +kernel
theorem dX7_draws_48 : decode cX7_draws 48 = .ok (.iload 4, 2) := by decide +kernel
theorem dX7_draws_50 : decode cX7_draws 50 = .ok (.ifCond .eq 17, 3) := by decide +kernel
theorem dX7_draws_53 : decode cX7_draws 53 = .ok (.iload 4, 2) := by decide +kernel
theorem dX7_draws_55 : decode cX7_draws 55 = .ok (.aload_n 0, 1) := by decide +kernel
theorem dX7_draws_56 : decode cX7_draws 56 = .ok (.iconst 4, 1) := by decide +kernel
theorem dX7_draws_57 : decode cX7_draws 57 = .ok (.iconst 4, 1) := by decide +kernel
theorem dX7_draws_58 : decode cX7_draws 58 = .ok (.iload_n 3, 1) := by decide +kernel
theorem dX7_draws_59 : decode cX7_draws 59 = .ok (.imul, 1) := by decide +kernel
theorem dX7_draws_60 : decode cX7_draws 60 = .ok (.iadd, 1) := by decide +kernel
theorem dX7_draws_61 : decode cX7_draws 61 = .ok (.invokevirtual 20, 3) := by decide +kernel
theorem dX7_draws_64 : decode cX7_draws 64 = .ok (.if_icmp .eq 5, 3) := by decide +kernel
theorem dX7_draws_67 : decode cX7_draws 67 = .ok (.iconst 0, 1) := by decide +kernel
theorem dX7_draws_68 : decode cX7_draws 68 = .ok (.ireturn, 1) := by decide +kernel
theorem dX7_draws_69 : decode cX7_draws 69 = .ok (.aload_n 0, 1) := by decide +kernel
theorem dX7_draws_70 : decode cX7_draws 70 = .ok (.iconst 4, 1) := by decide +kernel
theorem dX7_draws_71 : decode cX7_draws 71 = .ok (.iconst 4, 1) := by decide +kernel
theorem dX7_draws_72 : decode cX7_draws 72 = .ok (.iload_n 3, 1) := by decide +kernel
theorem dX7_draws_73 : decode cX7_draws 73 = .ok (.imul, 1) := by decide +kernel
theorem dX7_draws_74 : decode cX7_draws 74 = .ok (.iadd, 1) := by decide +kernel
theorem dX7_draws_75 : decode cX7_draws 75 = .ok (.bipush 16, 2) := by decide +kernel
theorem dX7_draws_77 : decode cX7_draws 77 = .ok (.iconst 4, 1) := by decide +kernel
theorem dX7_draws_78 : decode cX7_draws 78 = .ok (.iload_n 1, 1) := by decide +kernel
theorem dX7_draws_79 : decode cX7_draws 79 = .ok (.imul, 1) := by decide +kernel
theorem dX7_draws_80 : decode cX7_draws 80 = .ok (.iadd, 1) := by decide +kernel
theorem dX7_draws_81 : decode cX7_draws 81 = .ok (.iconst 0, 1) := by decide +kernel
theorem dX7_draws_82 : decode cX7_draws 82 = .ok (.iload 4, 2) := by decide +kernel
theorem dX7_draws_84 : decode cX7_draws 84 = .ok (.aload_n 0, 1) := by decide +kernel
theorem dX7_draws_85 : decode cX7_draws 85 = .ok (.iload_n 1, 1) := by decide +kernel
theorem dX7_draws_86 : decode cX7_draws 86 = .ok (.invokevirtual 34, 3) := by decide +kernel
theorem dX7_draws_89 : decode cX7_draws 89 = .ok (.if_icmp .ge 8, 3) := by decide +kernel
theorem dX7_draws_92 : decode cX7_draws 92 = .ok (.iload 4, 2) := by decide +kernel
theorem dX7_draws_94 : decode cX7_draws 94 = .ok (.goto 8, 3) := by decide +kernel
theorem dX7_draws_97 : decode cX7_draws 97 = .ok (.aload_n 0, 1) := by decide +kernel
theorem dX7_draws_98 : decode cX7_draws 98 = .ok (.iload_n 1, 1) := by decide +kernel
theorem dX7_draws_99 : decode cX7_draws 99 = .ok (.invokevirtual 34, 3) := by decide +kernel
theorem dX7_draws_102 : decode cX7_draws 102 = .ok (.invokevirtual 37, 3) := by decide +kernel
theorem dX7_draws_105 : decode cX7_draws 105 = .ok (.aload_n 0, 1) := by decide +kernel
theorem dX7_draws_106 : decode cX7_draws 106 = .ok (.getfield 7, 3) := by decide +kernel
theorem dX7_draws_109 : decode cX7_draws 109 = .ok (.bipush 96, 2) := by decide +kernel
theorem dX7_draws_111 : decode cX7_draws 111 = .ok (.iload_n 1, 1) := by decide +kernel
theorem dX7_draws_112 : decode cX7_draws 112 = .ok (.iadd, 1) := by decide +kernel
theorem dX7_draws_113 : decode cX7_draws 113 = .ok (.iconst 3, 1) := by decide +kernel
theorem dX7_draws_114 : decode cX7_draws 114 = .ok (.iastore, 1) := by decide +kernel
theorem dX7_draws_115 : decode cX7_draws 115 = .ok (.iconst 1, 1) := by decide +kernel
theorem dX7_draws_116 : decode cX7_draws 116 = .ok (.ireturn, 1) := by decide +kernel
theorem dX7_cleans_0 : decode cX7_cleans 0 = .ok (.iload_n 2, 1) := by decide +kernel
theorem dX7_cleans_1 : decode cX7_cleans 1 = .ok (.iconst 1, 1) := by decide +kernel
theorem dX7_cleans_2 : decode cX7_cleans 2 = .ok (.if_icmp .eq 9, 3) := by decide +kernel
theorem dX7_cleans_5 : decode cX7_cleans 5 = .ok (.iload_n 2, 1) := by decide +kernel
theorem dX7_cleans_6 : decode cX7_cleans 6 = .ok (.bipush 14, 2) := by decide +kernel
theorem dX7_cleans_8 : decode cX7_cleans 8 = .ok (.if_icmp .ne 28, 3) := by decide +kernel
theorem dX7_cleans_11 : decode cX7_cleans 11 = .ok (.aload_n 0, 1) := by decide +kernel
theorem dX7_cleans_12 : decode cX7_cleans 12 = .ok (.getfield 7, 3) := by decide +kernel
theorem dX7_cleans_15 : decode cX7_cleans 15 = .ok (.bipush 96, 2) := by decide +kernel
theorem dX7_cleans_17 : decode cX7_cleans 17 = .ok (.iload_n 1, 1) := by decide +kernel
theorem dX7_cleans_18 : decode cX7_cleans 18 = .ok (.iadd, 1) := by decide +kernel
theorem dX7_cleans_19 : decode cX7_cleans 19 = .ok (.iaload, 1) := by decide +kernel
theorem dX7_cleans_20 : decode cX7_cleans 20 = .ok (.ifCond .ne 16, 3) := by decide +kernel
theorem dX7_cleans_23 : decode cX7_cleans 23 = .ok (.aload_n 0, 1) := by decide +kernel
theorem dX7_cleans_24 : decode cX7_cleans 24 = .ok (.bipush 32, 2) := by decide +kernel
theorem dX7_cleans_26 : decode cX7_cleans 26 = .ok (.iconst 4, 1) := by decide +kernel
theorem dX7_cleans_27 : decode cX7_cleans 27 = .ok (.iload_n 1, 1) := by decide +kernel
theorem dX7_cleans_28 : decode cX7_cleans 28 = .ok (.imul, 1) := by decide +kernel
theorem dX7_cleans_29 : decode cX7_cleans 29 = .ok (.iadd, 1) := by decide +kernel
theorem dX7_cleans_30 : decode cX7_cleans 30 = .ok (.invokevirtual 20, 3) := by decide +kernel
theorem dX7_cleans_33 : decode cX7_cleans 33 = .ok (.ifCond .ne 5, 3) := by decide +kernel
theorem dX7_cleans_36 : decode cX7_cleans 36 = .ok (.iconst 0, 1) := by decide +kernel
theorem dX7_cleans_37 : decode cX7_cleans 37 = .ok (.ireturn, 1) := by decide +kernel
theorem dX7_cleans_38 : decode cX7_cleans 38 = .ok (.iconst 0, 1) := by decide +kernel
theorem dX7_cleans_39 : decode cX7_cleans 39 = .ok (.istore_n 3, 1) := by decide +kernel
theorem dX7_cleans_40 : decode cX7_cleans 40 = .ok (.iload_n 3, 1) := by decide +kernel
theorem dX7_cleans_41 : decode cX7_cleans 41 = .ok (.iconst 4, 1) := by decide +kernel
theorem dX7_cleans_42 : decode cX7_cleans 42 = .ok (.if_icmp .ge 35, 3) := by decide +kernel
theorem dX7_cleans_45 : decode cX7_cleans 45 = .ok (.aload_n 0, 1) := by decide +kernel
theorem dX7_cleans_46 : decode cX7_cleans 46 = .ok (.bipush 32, 2) := by decide +kernel
theorem dX7_cleans_48 : decode cX7_cleans 48 = .ok (.iconst 4, 1) := by decide +kernel
theorem dX7_cleans_49 : decode cX7_cleans 49 = .ok (.iload_n 1, 1) := by decide +kernel
theorem dX7_cleans_50 : decode cX7_cleans 50 = .ok (.imul, 1) := by decide +kernel
theorem dX7_cleans_51 : decode cX7_cleans 51 = .ok (.iadd, 1) := by decide +kernel
theorem dX7_cleans_52 : decode cX7_cleans 52 = .ok (.bipush 60, 2) := by decide +kernel
theorem dX7_cleans_54 : decode cX7_cleans 54 = .ok (.iload_n 3, 1) := by decide +kernel
theorem dX7_cleans_55 : decode cX7_cleans 55 = .ok (.aload_n 0, 1) := by decide +kernel
theorem dX7_cleans_56 : decode cX7_cleans 56 = .ok (.getfield 7, 3) := by decide +kernel
theorem dX7_cleans_59 : decode cX7_cleans 59 = .ok (.bipush 32, 2) := by decide +kernel
theorem dX7_cleans_61 : decode cX7_cleans 61 = .ok (.iconst 4, 1) := by decide +kernel
theorem dX7_cleans_62 : decode cX7_cleans 62 = .ok (.iload_n 1, 1) := by decide +kernel
theorem dX7_cleans_63 : decode cX7_cleans 63 = .ok (.imul, 1) := by decide +kernel
theorem dX7_cleans_64 : decode cX7_cleans 64 = .ok (.iadd, 1) := by decide +kernel
theorem dX7_cleans_65 : decode cX7_cleans 65 = .ok (.iload_n 3, 1) := by decide +kernel
theorem dX7_cleans_66 : decode cX7_cleans 66 = .ok (.iadd, 1) := by decide +kernel
theorem dX7_cleans_67 : decode cX7_cleans 67 = .ok (.iaload, 1) := by decide +kernel
theorem dX7_cleans_68 : decode cX7_cleans 68 = .ok (.invokevirtual 37, 3) := by decide +kernel
theorem dX7_cleans_71 : decode cX7_cleans 71 = .ok (.iinc 3 1, 3) := by decide +kernel
theorem dX7_cleans_74 : decode cX7_cleans 74 = .ok (.goto (-34), 3) := by decide +kernel
theorem dX7_cleans_77 : decode cX7_cleans 77 = .ok (.iconst 1, 1) := by decide +kernel
theorem dX7_cleans_78 : decode cX7_cleans 78 = .ok (.ireturn, 1) := by decide +kernel
theorem dX7_does_0 : decode cX7_does 0 = .ok (.aload_n 0, 1) := by decide +kernel
theorem dX7_does_1 : decode cX7_does 1 = .ok (.getfield 7, 3) := by decide +kernel
theorem dX7_does_4 : decode cX7_does 4 = .ok (.bipush 100, 2) := by decide +kernel
theorem dX7_does_6 : decode cX7_does 6 = .ok (.iload_n 1, 1) := by decide +kernel
theorem dX7_does_7 : decode cX7_does 7 = .ok (.iadd, 1) := by decide +kernel
theorem dX7_does_8 : decode cX7_does 8 = .ok (.iaload, 1) := by decide +kernel
theorem dX7_does_9 : decode cX7_does 9 = .ok (.istore_n 3, 1) := by decide +kernel
theorem dX7_does_10 : decode cX7_does 10 = .ok (.aload_n 0, 1) := by decide +kernel
theorem dX7_does_11 : decode cX7_does 11 = .ok (.getfield 7, 3) := by decide +kernel
theorem dX7_does_14 : decode cX7_does 14 = .ok (.bipush 102, 2) := by decide +kernel
theorem dX7_does_16 : decode cX7_does 16 = .ok (.iload_n 1, 1) := by decide +kernel
theorem dX7_does_17 : decode cX7_does 17 = .ok (.iadd, 1) := by decide +kernel
theorem dX7_does_18 : decode cX7_does 18 = .ok (.iaload, 1) := by decide +kernel
theorem dX7_does_19 : decode cX7_does 19 = .ok (.istore 4, 2) := by decide +kernel
theorem dX7_does_21 : decode cX7_does 21 = .ok (.iload_n 2, 1) := by decide +kernel
theorem dX7_does_22 : decode cX7_does 22 = .ok (.iconst 1, 1) := by decide +kernel
theorem dX7_does_23 : decode cX7_does 23 = .ok (.if_icmp .ne 10, 3) := by decide +kernel
theorem dX7_does_26 : decode cX7_does 26 = .ok (.aload_n 0, 1) := by decide +kernel
theorem dX7_does_27 : decode cX7_does 27 = .ok (.iload_n 1, 1) := by decide +kernel
theorem dX7_does_28 : decode cX7_does 28 = .ok (.iload_n 3, 1) := by decide +kernel
theorem dX7_does_29 : decode cX7_does 29 = .ok (.invokevirtual 45, 3) := by decide +kernel
theorem dX7_does_32 : decode cX7_does 32 = .ok (.ireturn, 1) := by decide +kernel
theorem dX7_does_33 : decode cX7_does 33 = .ok (.iload 4, 2) := by decide +kernel
theorem dX7_does_35 : decode cX7_does 35 = .ok (.ifCond .ge 5, 3) := by decide +kernel
theorem dX7_does_38 : decode cX7_does 38 = .ok (.iconst 0, 1) := by decide +kernel
theorem dX7_does_39 : decode cX7_does 39 = .ok (.ireturn, 1) := by decide +kernel
theorem dX7_does_40 : decode cX7_does 40 = .ok (.iload_n 2, 1) := by decide +kernel
theorem dX7_does_41 : decode cX7_does 41 = .ok (.tableswitch 74 2 6 #[35, 42, 50, 58, 66], 35) := by decide +kernel
theorem dX7_does_76 : decode cX7_does 76 = .ok (.aload_n 0, 1) := by decide +kernel
theorem dX7_does_77 : decode cX7_does 77 = .ok (.iload_n 1, 1) := by decide +kernel
theorem dX7_does_78 : decode cX7_does 78 = .ok (.iload_n 3, 1) := by decide +kernel
theorem dX7_does_79 : decode cX7_does 79 = .ok (.invokevirtual 49, 3) := by decide +kernel
theorem dX7_does_82 : decode cX7_does 82 = .ok (.ireturn, 1) := by decide +kernel
theorem dX7_does_83 : decode cX7_does 83 = .ok (.aload_n 0, 1) := by decide +kernel
theorem dX7_does_84 : decode cX7_does 84 = .ok (.iload 4, 2) := by decide +kernel
theorem dX7_does_86 : decode cX7_does 86 = .ok (.iload_n 3, 1) := by decide +kernel
theorem dX7_does_87 : decode cX7_does 87 = .ok (.invokevirtual 52, 3) := by decide +kernel
theorem dX7_does_90 : decode cX7_does 90 = .ok (.ireturn, 1) := by decide +kernel
theorem dX7_does_91 : decode cX7_does 91 = .ok (.aload_n 0, 1) := by decide +kernel
theorem dX7_does_92 : decode cX7_does 92 = .ok (.iload 4, 2) := by decide +kernel
theorem dX7_does_94 : decode cX7_does 94 = .ok (.iload_n 3, 1) := by decide +kernel
theorem dX7_does_95 : decode cX7_does 95 = .ok (.invokevirtual 55, 3) := by decide +kernel
theorem dX7_does_98 : decode cX7_does 98 = .ok (.ireturn, 1) := by decide +kernel
theorem dX7_does_99 : decode cX7_does 99 = .ok (.aload_n 0, 1) := by decide +kernel
theorem dX7_does_100 : decode cX7_does 100 = .ok (.iload 4, 2) := by decide +kernel
theorem dX7_does_102 : decode cX7_does 102 = .ok (.iload_n 3, 1) := by decide +kernel
theorem dX7_does_103 : decode cX7_does 103 = .ok (.invokevirtual 58, 3) := by decide +kernel
theorem dX7_does_106 : decode cX7_does 106 = .ok (.ireturn, 1) := by decide +kernel
theorem dX7_does_107 : decode cX7_does 107 = .ok (.aload_n 0, 1) := by decide +kernel
theorem dX7_does_108 : decode cX7_does 108 = .ok (.iload 4, 2) := by decide +kernel
theorem dX7_does_110 : decode cX7_does 110 = .ok (.iload_n 3, 1) := by decide +kernel
theorem dX7_does_111 : decode cX7_does 111 = .ok (.invokevirtual 61, 3) := by decide +kernel
theorem dX7_does_114 : decode cX7_does 114 = .ok (.ireturn, 1) := by decide +kernel
theorem dX7_does_115 : decode cX7_does 115 = .ok (.aload_n 0, 1) := by decide +kernel
theorem dX7_does_116 : decode cX7_does 116 = .ok (.iload 4, 2) := by decide +kernel
theorem dX7_does_118 : decode cX7_does 118 = .ok (.iload_n 3, 1) := by decide +kernel
theorem dX7_does_119 : decode cX7_does 119 = .ok (.invokevirtual 64, 3) := by decide +kernel
theorem dX7_does_122 : decode cX7_does 122 = .ok (.ireturn, 1) := by decide +kernel
theorem dX7_finishes_0 : decode cX7_finishes 0 = .ok (.bipush 108, 2) := by decide +kernel
theorem dX7_finishes_2 : decode cX7_finishes 2 = .ok (.bipush 16, 2) := by decide +kernel
theorem dX7_finishes_4 : decode cX7_finishes 4 = .ok (.iload_n 1, 1) := by decide +kernel
theorem dX7_finishes_5 : decode cX7_finishes 5 = .ok (.imul, 1) := by decide +kernel
theorem dX7_finishes_6 : decode cX7_finishes 6 = .ok (.iadd, 1) := by decide +kernel
theorem dX7_finishes_7 : decode cX7_finishes 7 = .ok (.istore_n 2, 1) := by decide +kernel
theorem dX7_finishes_8 : decode cX7_finishes 8 = .ok (.iconst 0, 1) := by decide +kernel
theorem dX7_finishes_9 : decode cX7_finishes 9 = .ok (.istore_n 3, 1) := by decide +kernel
theorem dX7_finishes_10 : decode cX7_finishes 10 = .ok (.iload_n 3, 1) := by decide +kernel
theorem dX7_finishes_11 : decode cX7_finishes 11 = .ok (.bipush 14, 2) := by decide +kernel
theorem dX7_finishes_13 : decode cX7_finishes 13 = .ok (.if_icmp .ge 27, 3) := by decide +kernel
theorem dX7_finishes_16 : decode cX7_finishes 16 = .ok (.aload_n 0, 1) := by decide +kernel
theorem dX7_finishes_17 : decode cX7_finishes 17 = .ok (.getfield 7, 3) := by decide +kernel
theorem dX7_finishes_20 : decode cX7_finishes 20 = .ok (.iload_n 2, 1) := by decide +kernel
theorem dX7_finishes_21 : decode cX7_finishes 21 = .ok (.iload_n 3, 1) := by decide +kernel
theorem dX7_finishes_22 : decode cX7_finishes 22 = .ok (.iadd, 1) := by decide +kernel
theorem dX7_finishes_23 : decode cX7_finishes 23 = .ok (.aload_n 0, 1) := by decide +kernel
theorem dX7_finishes_24 : decode cX7_finishes 24 = .ok (.getfield 7, 3) := by decide +kernel
theorem dX7_finishes_27 : decode cX7_finishes 27 = .ok (.iload_n 2, 1) := by decide +kernel
theorem dX7_finishes_28 : decode cX7_finishes 28 = .ok (.iload_n 3, 1) := by decide +kernel
theorem dX7_finishes_29 : decode cX7_finishes 29 = .ok (.iadd, 1) := by decide +kernel
theorem dX7_finishes_30 : decode cX7_finishes 30 = .ok (.iconst 2, 1) := by decide +kernel
theorem dX7_finishes_31 : decode cX7_finishes 31 = .ok (.iadd, 1) := by decide +kernel
theorem dX7_finishes_32 : decode cX7_finishes 32 = .ok (.iaload, 1) := by decide +kernel
theorem dX7_finishes_33 : decode cX7_finishes 33 = .ok (.iastore, 1) := by decide +kernel
theorem dX7_finishes_34 : decode cX7_finishes 34 = .ok (.iinc 3 1, 3) := by decide +kernel
theorem dX7_finishes_37 : decode cX7_finishes 37 = .ok (.goto (-27), 3) := by decide +kernel
theorem dX7_finishes_40 : decode cX7_finishes 40 = .ok (.aload_n 0, 1) := by decide +kernel
theorem dX7_finishes_41 : decode cX7_finishes 41 = .ok (.getfield 7, 3) := by decide +kernel
theorem dX7_finishes_44 : decode cX7_finishes 44 = .ok (.bipush 104, 2) := by decide +kernel
theorem dX7_finishes_46 : decode cX7_finishes 46 = .ok (.iload_n 1, 1) := by decide +kernel
theorem dX7_finishes_47 : decode cX7_finishes 47 = .ok (.iadd, 1) := by decide +kernel
theorem dX7_finishes_48 : decode cX7_finishes 48 = .ok (.dup2, 1) := by decide +kernel
theorem dX7_finishes_49 : decode cX7_finishes 49 = .ok (.iaload, 1) := by decide +kernel
theorem dX7_finishes_50 : decode cX7_finishes 50 = .ok (.iconst 1, 1) := by decide +kernel
theorem dX7_finishes_51 : decode cX7_finishes 51 = .ok (.isub, 1) := by decide +kernel
theorem dX7_finishes_52 : decode cX7_finishes 52 = .ok (.iastore, 1) := by decide +kernel
theorem dX7_finishes_53 : decode cX7_finishes 53 = .ok (.aload_n 0, 1) := by decide +kernel
theorem dX7_finishes_54 : decode cX7_finishes 54 = .ok (.getfield 7, 3) := by decide +kernel
theorem dX7_finishes_57 : decode cX7_finishes 57 = .ok (.sipush 146, 3) := by decide +kernel
theorem dX7_finishes_60 : decode cX7_finishes 60 = .ok (.dup2, 1) := by decide +kernel
theorem dX7_finishes_61 : decode cX7_finishes 61 = .ok (.iaload, 1) := by decide +kernel
theorem dX7_finishes_62 : decode cX7_finishes 62 = .ok (.iconst 1, 1) := by decide +kernel
theorem dX7_finishes_63 : decode cX7_finishes 63 = .ok (.iadd, 1) := by decide +kernel
theorem dX7_finishes_64 : decode cX7_finishes 64 = .ok (.iastore, 1) := by decide +kernel
theorem dX7_finishes_65 : decode cX7_finishes 65 = .ok (.return_, 1) := by decide +kernel
theorem dX7_goes_0 : decode cX7_goes 0 = .ok (.bipush 108, 2) := by decide +kernel
theorem dX7_goes_2 : decode cX7_goes 2 = .ok (.bipush 16, 2) := by decide +kernel
theorem dX7_goes_4 : decode cX7_goes 4 = .ok (.iload_n 1, 1) := by decide +kernel
theorem dX7_goes_5 : decode cX7_goes 5 = .ok (.imul, 1) := by decide +kernel
theorem dX7_goes_6 : decode cX7_goes 6 = .ok (.iadd, 1) := by decide +kernel
theorem dX7_goes_7 : decode cX7_goes 7 = .ok (.istore_n 2, 1) := by decide +kernel
theorem dX7_goes_8 : decode cX7_goes 8 = .ok (.aload_n 0, 1) := by decide +kernel
theorem dX7_goes_9 : decode cX7_goes 9 = .ok (.getfield 7, 3) := by decide +kernel
theorem dX7_goes_12 : decode cX7_goes 12 = .ok (.bipush 104, 2) := by decide +kernel
theorem dX7_goes_14 : decode cX7_goes 14 = .ok (.iload_n 1, 1) := by decide +kernel
theorem dX7_goes_15 : decode cX7_goes 15 = .ok (.iadd, 1) := by decide +kernel
theorem dX7_goes_16 : decode cX7_goes 16 = .ok (.iaload, 1) := by decide +kernel
theorem dX7_goes_17 : decode cX7_goes 17 = .ok (.ifCond .le 40, 3) := by decide +kernel
theorem dX7_goes_20 : decode cX7_goes 20 = .ok (.aload_n 0, 1) := by decide +kernel
theorem dX7_goes_21 : decode cX7_goes 21 = .ok (.getfield 7, 3) := by decide +kernel
theorem dX7_goes_24 : decode cX7_goes 24 = .ok (.iload_n 2, 1) := by decide +kernel
theorem dX7_goes_25 : decode cX7_goes 25 = .ok (.iaload, 1) := by decide +kernel
theorem dX7_goes_26 : decode cX7_goes 26 = .ok (.ifCond .ne 31, 3) := by decide +kernel
theorem dX7_goes_29 : decode cX7_goes 29 = .ok (.aload_n 0, 1) := by decide +kernel
theorem dX7_goes_30 : decode cX7_goes 30 = .ok (.getfield 7, 3) := by decide +kernel
theorem dX7_goes_33 : decode cX7_goes 33 = .ok (.iload_n 2, 1) := by decide +kernel
theorem dX7_goes_34 : decode cX7_goes 34 = .ok (.iconst 1, 1) := by decide +kernel
theorem dX7_goes_35 : decode cX7_goes 35 = .ok (.iadd, 1) := by decide +kernel
theorem dX7_goes_36 : decode cX7_goes 36 = .ok (.iaload, 1) := by decide +kernel
theorem dX7_goes_37 : decode cX7_goes 37 = .ok (.aload_n 0, 1) := by decide +kernel
theorem dX7_goes_38 : decode cX7_goes 38 = .ok (.getfield 7, 3) := by decide +kernel
theorem dX7_goes_41 : decode cX7_goes 41 = .ok (.bipush 100, 2) := by decide +kernel
theorem dX7_goes_43 : decode cX7_goes 43 = .ok (.iload_n 1, 1) := by decide +kernel
theorem dX7_goes_44 : decode cX7_goes 44 = .ok (.iadd, 1) := by decide +kernel
theorem dX7_goes_45 : decode cX7_goes 45 = .ok (.iaload, 1) := by decide +kernel
theorem dX7_goes_46 : decode cX7_goes 46 = .ok (.if_icmp .ne 11, 3) := by decide +kernel
theorem dX7_goes_49 : decode cX7_goes 49 = .ok (.aload_n 0, 1) := by decide +kernel
theorem dX7_goes_50 : decode cX7_goes 50 = .ok (.iload_n 1, 1) := by decide +kernel
theorem dX7_goes_51 : decode cX7_goes 51 = .ok (.invokevirtual 67, 3) := by decide +kernel
theorem dX7_goes_54 : decode cX7_goes 54 = .ok (.goto (-46), 3) := by decide +kernel
theorem dX7_goes_57 : decode cX7_goes 57 = .ok (.aload_n 0, 1) := by decide +kernel
theorem dX7_goes_58 : decode cX7_goes 58 = .ok (.getfield 7, 3) := by decide +kernel
theorem dX7_goes_61 : decode cX7_goes 61 = .ok (.bipush 104, 2) := by decide +kernel
theorem dX7_goes_63 : decode cX7_goes 63 = .ok (.iload_n 1, 1) := by decide +kernel
theorem dX7_goes_64 : decode cX7_goes 64 = .ok (.iadd, 1) := by decide +kernel
theorem dX7_goes_65 : decode cX7_goes 65 = .ok (.iaload, 1) := by decide +kernel
theorem dX7_goes_66 : decode cX7_goes 66 = .ok (.ifCond .ne 4, 3) := by decide +kernel
theorem dX7_goes_69 : decode cX7_goes 69 = .ok (.return_, 1) := by decide +kernel
theorem dX7_goes_70 : decode cX7_goes 70 = .ok (.aload_n 0, 1) := by decide +kernel
theorem dX7_goes_71 : decode cX7_goes 71 = .ok (.getfield 7, 3) := by decide +kernel
theorem dX7_goes_74 : decode cX7_goes 74 = .ok (.iload_n 2, 1) := by decide +kernel
theorem dX7_goes_75 : decode cX7_goes 75 = .ok (.iaload, 1) := by decide +kernel
theorem dX7_goes_76 : decode cX7_goes 76 = .ok (.ifCond .le 39, 3) := by decide +kernel
theorem dX7_goes_79 : decode cX7_goes 79 = .ok (.aload_n 0, 1) := by decide +kernel
theorem dX7_goes_80 : decode cX7_goes 80 = .ok (.iload_n 1, 1) := by decide +kernel
theorem dX7_goes_81 : decode cX7_goes 81 = .ok (.aload_n 0, 1) := by decide +kernel
theorem dX7_goes_82 : decode cX7_goes 82 = .ok (.getfield 7, 3) := by decide +kernel
theorem dX7_goes_85 : decode cX7_goes 85 = .ok (.iload_n 2, 1) := by decide +kernel
theorem dX7_goes_86 : decode cX7_goes 86 = .ok (.iaload, 1) := by decide +kernel
theorem dX7_goes_87 : decode cX7_goes 87 = .ok (.invokevirtual 71, 3) := by decide +kernel
theorem dX7_goes_90 : decode cX7_goes 90 = .ok (.ifCond .eq 11, 3) := by decide +kernel
theorem dX7_goes_93 : decode cX7_goes 93 = .ok (.aload_n 0, 1) := by decide +kernel
theorem dX7_goes_94 : decode cX7_goes 94 = .ok (.iload_n 1, 1) := by decide +kernel
theorem dX7_goes_95 : decode cX7_goes 95 = .ok (.invokevirtual 67, 3) := by decide +kernel
theorem dX7_goes_98 : decode cX7_goes 98 = .ok (.goto 16, 3) := by decide +kernel
theorem dX7_goes_101 : decode cX7_goes 101 = .ok (.aload_n 0, 1) := by decide +kernel
theorem dX7_goes_102 : decode cX7_goes 102 = .ok (.getfield 7, 3) := by decide +kernel
theorem dX7_goes_105 : decode cX7_goes 105 = .ok (.bipush 106, 2) := by decide +kernel
theorem dX7_goes_107 : decode cX7_goes 107 = .ok (.iload_n 1, 1) := by decide +kernel
theorem dX7_goes_108 : decode cX7_goes 108 = .ok (.iadd, 1) := by decide +kernel
theorem dX7_goes_109 : decode cX7_goes 109 = .ok (.dup2, 1) := by decide +kernel
theorem dX7_goes_110 : decode cX7_goes 110 = .ok (.iaload, 1) := by decide +kernel
theorem dX7_goes_111 : decode cX7_goes 111 = .ok (.iconst 1, 1) := by decide +kernel
theorem dX7_goes_112 : decode cX7_goes 112 = .ok (.iadd, 1) := by decide +kernel
theorem dX7_goes_113 : decode cX7_goes 113 = .ok (.iastore, 1) := by decide +kernel
theorem dX7_goes_114 : decode cX7_goes 114 = .ok (.return_, 1) := by decide +kernel
theorem dX7_goes_115 : decode cX7_goes 115 = .ok (.aload_n 0, 1) := by decide +kernel
theorem dX7_goes_116 : decode cX7_goes 116 = .ok (.getfield 7, 3) := by decide +kernel
theorem dX7_goes_119 : decode cX7_goes 119 = .ok (.bipush 100, 2) := by decide +kernel
theorem dX7_goes_121 : decode cX7_goes 121 = .ok (.iload_n 1, 1) := by decide +kernel
theorem dX7_goes_122 : decode cX7_goes 122 = .ok (.iadd, 1) := by decide +kernel
theorem dX7_goes_123 : decode cX7_goes 123 = .ok (.iaload, 1) := by decide +kernel
theorem dX7_goes_124 : decode cX7_goes 124 = .ok (.aload_n 0, 1) := by decide +kernel
theorem dX7_goes_125 : decode cX7_goes 125 = .ok (.getfield 7, 3) := by decide +kernel
theorem dX7_goes_128 : decode cX7_goes 128 = .ok (.iload_n 2, 1) := by decide +kernel
theorem dX7_goes_129 : decode cX7_goes 129 = .ok (.iconst 1, 1) := by decide +kernel
theorem dX7_goes_130 : decode cX7_goes 130 = .ok (.iadd, 1) := by decide +kernel
theorem dX7_goes_131 : decode cX7_goes 131 = .ok (.iaload, 1) := by decide +kernel
theorem dX7_goes_132 : decode cX7_goes 132 = .ok (.aload_n 0, 1) := by decide +kernel
theorem dX7_goes_133 : decode cX7_goes 133 = .ok (.getfield 7, 3) := by decide +kernel
theorem dX7_goes_136 : decode cX7_goes 136 = .ok (.bipush 100, 2) := by decide +kernel
theorem dX7_goes_138 : decode cX7_goes 138 = .ok (.iload_n 1, 1) := by decide +kernel
theorem dX7_goes_139 : decode cX7_goes 139 = .ok (.iadd, 1) := by decide +kernel
theorem dX7_goes_140 : decode cX7_goes 140 = .ok (.iaload, 1) := by decide +kernel
theorem dX7_goes_141 : decode cX7_goes 141 = .ok (.if_icmp .le 7, 3) := by decide +kernel
theorem dX7_goes_144 : decode cX7_goes 144 = .ok (.iconst 1, 1) := by decide +kernel
theorem dX7_goes_145 : decode cX7_goes 145 = .ok (.goto 4, 3) := by decide +kernel
theorem dX7_goes_148 : decode cX7_goes 148 = .ok (.iconst (-1), 1) := by decide +kernel
theorem dX7_goes_149 : decode cX7_goes 149 = .ok (.iadd, 1) := by decide +kernel
theorem dX7_goes_150 : decode cX7_goes 150 = .ok (.istore_n 3, 1) := by decide +kernel
theorem dX7_goes_151 : decode cX7_goes 151 = .ok (.iload_n 3, 1) := by decide +kernel
theorem dX7_goes_152 : decode cX7_goes 152 = .ok (.aload_n 0, 1) := by decide +kernel
theorem dX7_goes_153 : decode cX7_goes 153 = .ok (.getfield 7, 3) := by decide +kernel
theorem dX7_goes_156 : decode cX7_goes 156 = .ok (.bipush 101, 2) := by decide +kernel
theorem dX7_goes_158 : decode cX7_goes 158 = .ok (.iload_n 1, 1) := by decide +kernel
theorem dX7_goes_159 : decode cX7_goes 159 = .ok (.isub, 1) := by decide +kernel
theorem dX7_goes_160 : decode cX7_goes 160 = .ok (.iaload, 1) := by decide +kernel
theorem dX7_goes_161 : decode cX7_goes 161 = .ok (.if_icmp .ne 17, 3) := by decide +kernel
theorem dX7_goes_164 : decode cX7_goes 164 = .ok (.aload_n 0, 1) := by decide +kernel
theorem dX7_goes_165 : decode cX7_goes 165 = .ok (.getfield 7, 3) := by decide +kernel
theorem dX7_goes_168 : decode cX7_goes 168 = .ok (.bipush 106, 2) := by decide +kernel
theorem dX7_goes_170 : decode cX7_goes 170 = .ok (.iload_n 1, 1) := by decide +kernel
theorem dX7_goes_171 : decode cX7_goes 171 = .ok (.iadd, 1) := by decide +kernel
theorem dX7_goes_172 : decode cX7_goes 172 = .ok (.dup2, 1) := by decide +kernel
theorem dX7_goes_173 : decode cX7_goes 173 = .ok (.iaload, 1) := by decide +kernel
theorem dX7_goes_174 : decode cX7_goes 174 = .ok (.iconst 1, 1) := by decide +kernel
theorem dX7_goes_175 : decode cX7_goes 175 = .ok (.iadd, 1) := by decide +kernel
theorem dX7_goes_176 : decode cX7_goes 176 = .ok (.iastore, 1) := by decide +kernel
theorem dX7_goes_177 : decode cX7_goes 177 = .ok (.return_, 1) := by decide +kernel
theorem dX7_goes_178 : decode cX7_goes 178 = .ok (.aload_n 0, 1) := by decide +kernel
theorem dX7_goes_179 : decode cX7_goes 179 = .ok (.getfield 7, 3) := by decide +kernel
theorem dX7_goes_182 : decode cX7_goes 182 = .ok (.bipush 100, 2) := by decide +kernel
theorem dX7_goes_184 : decode cX7_goes 184 = .ok (.iload_n 1, 1) := by decide +kernel
theorem dX7_goes_185 : decode cX7_goes 185 = .ok (.iadd, 1) := by decide +kernel
theorem dX7_goes_186 : decode cX7_goes 186 = .ok (.iload_n 3, 1) := by decide +kernel
theorem dX7_goes_187 : decode cX7_goes 187 = .ok (.iastore, 1) := by decide +kernel
theorem dX7_goes_188 : decode cX7_goes 188 = .ok (.aload_n 0, 1) := by decide +kernel
theorem dX7_goes_189 : decode cX7_goes 189 = .ok (.getfield 7, 3) := by decide +kernel
theorem dX7_goes_192 : decode cX7_goes 192 = .ok (.bipush 102, 2) := by decide +kernel
theorem dX7_goes_194 : decode cX7_goes 194 = .ok (.iload_n 1, 1) := by decide +kernel
theorem dX7_goes_195 : decode cX7_goes 195 = .ok (.iadd, 1) := by decide +kernel
theorem dX7_goes_196 : decode cX7_goes 196 = .ok (.iaload, 1) := by decide +kernel
theorem dX7_goes_197 : decode cX7_goes 197 = .ok (.ifCond .lt 21, 3) := by decide +kernel
theorem dX7_goes_200 : decode cX7_goes 200 = .ok (.aload_n 0, 1) := by decide +kernel
theorem dX7_goes_201 : decode cX7_goes 201 = .ok (.getfield 7, 3) := by decide +kernel
theorem dX7_goes_204 : decode cX7_goes 204 = .ok (.bipush 88, 2) := by decide +kernel
theorem dX7_goes_206 : decode cX7_goes 206 = .ok (.aload_n 0, 1) := by decide +kernel
theorem dX7_goes_207 : decode cX7_goes 207 = .ok (.getfield 7, 3) := by decide +kernel
theorem dX7_goes_210 : decode cX7_goes 210 = .ok (.bipush 102, 2) := by decide +kernel
theorem dX7_goes_212 : decode cX7_goes 212 = .ok (.iload_n 1, 1) := by decide +kernel
theorem dX7_goes_213 : decode cX7_goes 213 = .ok (.iadd, 1) := by decide +kernel
theorem dX7_goes_214 : decode cX7_goes 214 = .ok (.iaload, 1) := by decide +kernel
theorem dX7_goes_215 : decode cX7_goes 215 = .ok (.iadd, 1) := by decide +kernel
theorem dX7_goes_216 : decode cX7_goes 216 = .ok (.iload_n 3, 1) := by decide +kernel
theorem dX7_goes_217 : decode cX7_goes 217 = .ok (.iastore, 1) := by decide +kernel
theorem dX7_goes_218 : decode cX7_goes 218 = .ok (.return_, 1) := by decide +kernel
theorem dX7_minute_0 : decode cX7_minute 0 = .ok (.aload_n 0, 1) := by decide +kernel
theorem dX7_minute_1 : decode cX7_minute 1 = .ok (.getfield 7, 3) := by decide +kernel
theorem dX7_minute_4 : decode cX7_minute 4 = .ok (.sipush 140, 3) := by decide +kernel
theorem dX7_minute_7 : decode cX7_minute 7 = .ok (.dup2, 1) := by decide +kernel
theorem dX7_minute_8 : decode cX7_minute 8 = .ok (.iaload, 1) := by decide +kernel
theorem dX7_minute_9 : decode cX7_minute 9 = .ok (.iconst 1, 1) := by decide +kernel
theorem dX7_minute_10 : decode cX7_minute 10 = .ok (.iadd, 1) := by decide +kernel
theorem dX7_minute_11 : decode cX7_minute 11 = .ok (.iastore, 1) := by decide +kernel
theorem dX7_minute_12 : decode cX7_minute 12 = .ok (.aload_n 0, 1) := by decide +kernel
theorem dX7_minute_13 : decode cX7_minute 13 = .ok (.getfield 7, 3) := by decide +kernel
theorem dX7_minute_16 : decode cX7_minute 16 = .ok (.sipush 142, 3) := by decide +kernel
theorem dX7_minute_19 : decode cX7_minute 19 = .ok (.iconst 0, 1) := by decide +kernel
theorem dX7_minute_20 : decode cX7_minute 20 = .ok (.iastore, 1) := by decide +kernel
theorem dX7_minute_21 : decode cX7_minute 21 = .ok (.aload_n 0, 1) := by decide +kernel
theorem dX7_minute_22 : decode cX7_minute 22 = .ok (.invokevirtual 74, 3) := by decide +kernel
theorem dX7_minute_25 : decode cX7_minute 25 = .ok (.iconst 0, 1) := by decide +kernel
theorem dX7_minute_26 : decode cX7_minute 26 = .ok (.istore_n 1, 1) := by decide +kernel
theorem dX7_minute_27 : decode cX7_minute 27 = .ok (.iload_n 1, 1) := by decide +kernel
theorem dX7_minute_28 : decode cX7_minute 28 = .ok (.iconst 3, 1) := by decide +kernel
theorem dX7_minute_29 : decode cX7_minute 29 = .ok (.if_icmp .ge 27, 3) := by decide +kernel
theorem dX7_minute_32 : decode cX7_minute 32 = .ok (.aload_n 0, 1) := by decide +kernel
theorem dX7_minute_33 : decode cX7_minute 33 = .ok (.getfield 7, 3) := by decide +kernel
theorem dX7_minute_36 : decode cX7_minute 36 = .ok (.bipush 79, 2) := by decide +kernel
theorem dX7_minute_38 : decode cX7_minute 38 = .ok (.iload_n 1, 1) := by decide +kernel
theorem dX7_minute_39 : decode cX7_minute 39 = .ok (.iadd, 1) := by decide +kernel
theorem dX7_minute_40 : decode cX7_minute 40 = .ok (.iaload, 1) := by decide +kernel
theorem dX7_minute_41 : decode cX7_minute 41 = .ok (.iconst 1, 1) := by decide +kernel
theorem dX7_minute_42 : decode cX7_minute 42 = .ok (.if_icmp .ne 8, 3) := by decide +kernel
theorem dX7_minute_45 : decode cX7_minute 45 = .ok (.aload_n 0, 1) := by decide +kernel
theorem dX7_minute_46 : decode cX7_minute 46 = .ok (.iload_n 1, 1) := by decide +kernel
theorem dX7_minute_47 : decode cX7_minute 47 = .ok (.invokevirtual 77, 3) := by decide +kernel
theorem dX7_minute_50 : decode cX7_minute 50 = .ok (.iinc 1 1, 3) := by decide +kernel
theorem dX7_minute_53 : decode cX7_minute 53 = .ok (.goto (-26), 3) := by decide +kernel
theorem dX7_minute_56 : decode cX7_minute 56 = .ok (.iconst 0, 1) := by decide +kernel
theorem dX7_minute_57 : decode cX7_minute 57 = .ok (.istore_n 1, 1) := by decide +kernel
theorem dX7_minute_58 : decode cX7_minute 58 = .ok (.iload_n 1, 1) := by decide +kernel
theorem dX7_minute_59 : decode cX7_minute 59 = .ok (.iconst 3, 1) := by decide +kernel
theorem dX7_minute_60 : decode cX7_minute 60 = .ok (.if_icmp .ge 60, 3) := by decide +kernel
theorem dX7_minute_63 : decode cX7_minute 63 = .ok (.aload_n 0, 1) := by decide +kernel
theorem dX7_minute_64 : decode cX7_minute 64 = .ok (.iconst 4, 1) := by decide +kernel
theorem dX7_minute_65 : decode cX7_minute 65 = .ok (.iconst 4, 1) := by decide +kernel
theorem dX7_minute_66 : decode cX7_minute 66 = .ok (.iload_n 1, 1) := by decide +kernel
theorem dX7_minute_67 : decode cX7_minute 67 = .ok (.imul, 1) := by decide +kernel
theorem dX7_minute_68 : decode cX7_minute 68 = .ok (.iadd, 1) := by decide +kernel
theorem dX7_minute_69 : decode cX7_minute 69 = .ok (.invokevirtual 20, 3) := by decide +kernel
theorem dX7_minute_72 : decode cX7_minute 72 = .ok (.ifCond .le 42, 3) := by decide +kernel
theorem dX7_minute_75 : decode cX7_minute 75 = .ok (.aload_n 0, 1) := by decide +kernel
theorem dX7_minute_76 : decode cX7_minute 76 = .ok (.getfield 7, 3) := by decide +kernel
theorem dX7_minute_79 : decode cX7_minute 79 = .ok (.bipush 76, 2) := by decide +kernel
theorem dX7_minute_81 : decode cX7_minute 81 = .ok (.iload_n 1, 1) := by decide +kernel
theorem dX7_minute_82 : decode cX7_minute 82 = .ok (.iadd, 1) := by decide +kernel
theorem dX7_minute_83 : decode cX7_minute 83 = .ok (.aload_n 0, 1) := by decide +kernel
theorem dX7_minute_84 : decode cX7_minute 84 = .ok (.getfield 7, 3) := by decide +kernel
theorem dX7_minute_87 : decode cX7_minute 87 = .ok (.bipush 76, 2) := by decide +kernel
theorem dX7_minute_89 : decode cX7_minute 89 = .ok (.iload_n 1, 1) := by decide +kernel
theorem dX7_minute_90 : decode cX7_minute 90 = .ok (.iadd, 1) := by decide +kernel
theorem dX7_minute_91 : decode cX7_minute 91 = .ok (.iaload, 1) := by decide +kernel
theorem dX7_minute_92 : decode cX7_minute 92 = .ok (.bipush 8, 2) := by decide +kernel
theorem dX7_minute_94 : decode cX7_minute 94 = .ok (.if_icmp .ge 7, 3) := by decide +kernel
theorem dX7_minute_97 : decode cX7_minute 97 = .ok (.iconst 0, 1) := by decide +kernel
theorem dX7_minute_98 : decode cX7_minute 98 = .ok (.goto 15, 3) := by decide +kernel
theorem dX7_minute_101 : decode cX7_minute 101 = .ok (.aload_n 0, 1) := by decide +kernel
theorem dX7_minute_102 : decode cX7_minute 102 = .ok (.getfield 7, 3) := by decide +kernel
theorem dX7_minute_105 : decode cX7_minute 105 = .ok (.bipush 76, 2) := by decide +kernel
theorem dX7_minute_107 : decode cX7_minute 107 = .ok (.iload_n 1, 1) := by decide +kernel
theorem dX7_minute_108 : decode cX7_minute 108 = .ok (.iadd, 1) := by decide +kernel
theorem dX7_minute_109 : decode cX7_minute 109 = .ok (.iaload, 1) := by decide +kernel
theorem dX7_minute_110 : decode cX7_minute 110 = .ok (.bipush 8, 2) := by decide +kernel
theorem dX7_minute_112 : decode cX7_minute 112 = .ok (.isub, 1) := by decide +kernel
theorem dX7_minute_113 : decode cX7_minute 113 = .ok (.iastore, 1) := by decide +kernel
theorem dX7_minute_114 : decode cX7_minute 114 = .ok (.iinc 1 1, 3) := by decide +kernel
theorem dX7_minute_117 : decode cX7_minute 117 = .ok (.goto (-59), 3) := by decide +kernel
theorem dX7_minute_120 : decode cX7_minute 120 = .ok (.aload_n 0, 1) := by decide +kernel
theorem dX7_minute_121 : decode cX7_minute 121 = .ok (.getfield 7, 3) := by decide +kernel
theorem dX7_minute_124 : decode cX7_minute 124 = .ok (.bipush 48, 2) := by decide +kernel
theorem dX7_minute_126 : decode cX7_minute 126 = .ok (.iaload, 1) := by decide +kernel
theorem dX7_minute_127 : decode cX7_minute 127 = .ok (.iconst 5, 1) := by decide +kernel
theorem dX7_minute_128 : decode cX7_minute 128 = .ok (.aload_n 0, 1) := by decide +kernel
theorem dX7_minute_129 : decode cX7_minute 129 = .ok (.getfield 7, 3) := by decide +kernel
theorem dX7_minute_132 : decode cX7_minute 132 = .ok (.sipush 143, 3) := by decide +kernel
theorem dX7_minute_135 : decode cX7_minute 135 = .ok (.iaload, 1) := by decide +kernel
theorem dX7_minute_136 : decode cX7_minute 136 = .ok (.imul, 1) := by decide +kernel
theorem dX7_minute_137 : decode cX7_minute 137 = .ok (.isub, 1) := by decide +kernel
theorem dX7_minute_138 : decode cX7_minute 138 = .ok (.iconst 5, 1) := by decide +kernel
theorem dX7_minute_139 : decode cX7_minute 139 = .ok (.if_icmp .lt 18, 3) := by decide +kernel
theorem dX7_minute_142 : decode cX7_minute 142 = .ok (.aload_n 0, 1) := by decide +kernel
theorem dX7_minute_143 : decode cX7_minute 143 = .ok (.getfield 7, 3) := by decide +kernel
theorem dX7_minute_146 : decode cX7_minute 146 = .ok (.sipush 143, 3) := by decide +kernel
theorem dX7_minute_149 : decode cX7_minute 149 = .ok (.dup2, 1) := by decide +kernel
theorem dX7_minute_150 : decode cX7_minute 150 = .ok (.iaload, 1) := by decide +kernel
theorem dX7_minute_151 : decode cX7_minute 151 = .ok (.iconst 1, 1) := by decide +kernel
theorem dX7_minute_152 : decode cX7_minute 152 = .ok (.iadd, 1) := by decide +kernel
theorem dX7_minute_153 : decode cX7_minute 153 = .ok (.iastore, 1) := by decide +kernel
theorem dX7_minute_154 : decode cX7_minute 154 = .ok (.goto 15, 3) := by decide +kernel
theorem dX7_minute_157 : decode cX7_minute 157 = .ok (.aload_n 0, 1) := by decide +kernel
theorem dX7_minute_158 : decode cX7_minute 158 = .ok (.getfield 7, 3) := by decide +kernel
theorem dX7_minute_161 : decode cX7_minute 161 = .ok (.sipush 144, 3) := by decide +kernel
theorem dX7_minute_164 : decode cX7_minute 164 = .ok (.dup2, 1) := by decide +kernel
theorem dX7_minute_165 : decode cX7_minute 165 = .ok (.iaload, 1) := by decide +kernel
theorem dX7_minute_166 : decode cX7_minute 166 = .ok (.iconst 1, 1) := by decide +kernel
theorem dX7_minute_167 : decode cX7_minute 167 = .ok (.iadd, 1) := by decide +kernel
theorem dX7_minute_168 : decode cX7_minute 168 = .ok (.iastore, 1) := by decide +kernel
theorem dX7_minute_169 : decode cX7_minute 169 = .ok (.aload_n 0, 1) := by decide +kernel
theorem dX7_minute_170 : decode cX7_minute 170 = .ok (.iconst 0, 1) := by decide +kernel
theorem dX7_minute_171 : decode cX7_minute 171 = .ok (.invokevirtual 80, 3) := by decide +kernel
theorem dX7_minute_174 : decode cX7_minute 174 = .ok (.aload_n 0, 1) := by decide +kernel
theorem dX7_minute_175 : decode cX7_minute 175 = .ok (.iconst 1, 1) := by decide +kernel
theorem dX7_minute_176 : decode cX7_minute 176 = .ok (.invokevirtual 80, 3) := by decide +kernel
theorem dX7_minute_179 : decode cX7_minute 179 = .ok (.return_, 1) := by decide +kernel
theorem dX7_minutes_0 : decode cX7_minutes 0 = .ok (.iload_n 1, 1) := by decide +kernel
theorem dX7_minutes_1 : decode cX7_minutes 1 = .ok (.iconst 1, 1) := by decide +kernel
theorem dX7_minutes_2 : decode cX7_minutes 2 = .ok (.bipush 60, 2) := by decide +kernel
theorem dX7_minutes_4 : decode cX7_minutes 4 = .ok (.invokestatic 16, 3) := by decide +kernel
theorem dX7_minutes_7 : decode cX7_minutes 7 = .ok (.ifCond .ne 5, 3) := by decide +kernel
theorem dX7_minutes_10 : decode cX7_minutes 10 = .ok (.iconst (-1), 1) := by decide +kernel
theorem dX7_minutes_11 : decode cX7_minutes 11 = .ok (.ireturn, 1) := by decide +kernel
theorem dX7_minutes_12 : decode cX7_minutes 12 = .ok (.aload_n 0, 1) := by decide +kernel
theorem dX7_minutes_13 : decode cX7_minutes 13 = .ok (.getfield 7, 3) := by decide +kernel
theorem dX7_minutes_16 : decode cX7_minutes 16 = .ok (.sipush 146, 3) := by decide +kernel
theorem dX7_minutes_19 : decode cX7_minutes 19 = .ok (.iaload, 1) := by decide +kernel
theorem dX7_minutes_20 : decode cX7_minutes 20 = .ok (.istore_n 2, 1) := by decide +kernel
theorem dX7_minutes_21 : decode cX7_minutes 21 = .ok (.iconst 0, 1) := by decide +kernel
theorem dX7_minutes_22 : decode cX7_minutes 22 = .ok (.istore_n 3, 1) := by decide +kernel
theorem dX7_minutes_23 : decode cX7_minutes 23 = .ok (.iload_n 3, 1) := by decide +kernel
theorem dX7_minutes_24 : decode cX7_minutes 24 = .ok (.iload_n 1, 1) := by decide +kernel
theorem dX7_minutes_25 : decode cX7_minutes 25 = .ok (.if_icmp .ge 13, 3) := by decide +kernel
theorem dX7_minutes_28 : decode cX7_minutes 28 = .ok (.aload_n 0, 1) := by decide +kernel
theorem dX7_minutes_29 : decode cX7_minutes 29 = .ok (.invokevirtual 83, 3) := by decide +kernel
theorem dX7_minutes_32 : decode cX7_minutes 32 = .ok (.iinc 3 1, 3) := by decide +kernel
theorem dX7_minutes_35 : decode cX7_minutes 35 = .ok (.goto (-12), 3) := by decide +kernel
theorem dX7_minutes_38 : decode cX7_minutes 38 = .ok (.aload_n 0, 1) := by decide +kernel
theorem dX7_minutes_39 : decode cX7_minutes 39 = .ok (.getfield 7, 3) := by decide +kernel
theorem dX7_minutes_42 : decode cX7_minutes 42 = .ok (.sipush 146, 3) := by decide +kernel
theorem dX7_minutes_45 : decode cX7_minutes 45 = .ok (.iaload, 1) := by decide +kernel
theorem dX7_minutes_46 : decode cX7_minutes 46 = .ok (.iload_n 2, 1) := by decide +kernel
theorem dX7_minutes_47 : decode cX7_minutes 47 = .ok (.isub, 1) := by decide +kernel
theorem dX7_minutes_48 : decode cX7_minutes 48 = .ok (.ireturn, 1) := by decide +kernel
theorem dX7_until_0 : decode cX7_until 0 = .ok (.iload_n 1, 1) := by decide +kernel
theorem dX7_until_1 : decode cX7_until 1 = .ok (.iconst 1, 1) := by decide +kernel
theorem dX7_until_2 : decode cX7_until 2 = .ok (.sipush 200, 3) := by decide +kernel
theorem dX7_until_5 : decode cX7_until 5 = .ok (.invokestatic 16, 3) := by decide +kernel
theorem dX7_until_8 : decode cX7_until 8 = .ok (.ifCond .ne 5, 3) := by decide +kernel
theorem dX7_until_11 : decode cX7_until 11 = .ok (.iconst (-1), 1) := by decide +kernel
theorem dX7_until_12 : decode cX7_until 12 = .ok (.ireturn, 1) := by decide +kernel
theorem dX7_until_13 : decode cX7_until 13 = .ok (.iconst 0, 1) := by decide +kernel
theorem dX7_until_14 : decode cX7_until 14 = .ok (.istore_n 2, 1) := by decide +kernel
theorem dX7_until_15 : decode cX7_until 15 = .ok (.iload_n 2, 1) := by decide +kernel
theorem dX7_until_16 : decode cX7_until 16 = .ok (.iload_n 1, 1) := by decide +kernel
theorem dX7_until_17 : decode cX7_until 17 = .ok (.if_icmp .ge 31, 3) := by decide +kernel
theorem dX7_until_20 : decode cX7_until 20 = .ok (.aload_n 0, 1) := by decide +kernel
theorem dX7_until_21 : decode cX7_until 21 = .ok (.getfield 7, 3) := by decide +kernel
theorem dX7_until_24 : decode cX7_until 24 = .ok (.bipush 104, 2) := by decide +kernel
theorem dX7_until_26 : decode cX7_until 26 = .ok (.iaload, 1) := by decide +kernel
theorem dX7_until_27 : decode cX7_until 27 = .ok (.aload_n 0, 1) := by decide +kernel
theorem dX7_until_28 : decode cX7_until 28 = .ok (.getfield 7, 3) := by decide +kernel
theorem dX7_until_31 : decode cX7_until 31 = .ok (.bipush 105, 2) := by decide +kernel
theorem dX7_until_33 : decode cX7_until 33 = .ok (.iaload, 1) := by decide +kernel
theorem dX7_until_34 : decode cX7_until 34 = .ok (.iadd, 1) := by decide +kernel
theorem dX7_until_35 : decode cX7_until 35 = .ok (.ifCond .le 13, 3) := by decide +kernel
theorem dX7_until_38 : decode cX7_until 38 = .ok (.aload_n 0, 1) := by decide +kernel
theorem dX7_until_39 : decode cX7_until 39 = .ok (.invokevirtual 83, 3) := by decide +kernel
theorem dX7_until_42 : decode cX7_until 42 = .ok (.iinc 2 1, 3) := by decide +kernel
theorem dX7_until_45 : decode cX7_until 45 = .ok (.goto (-30), 3) := by decide +kernel
theorem dX7_until_48 : decode cX7_until 48 = .ok (.iload_n 2, 1) := by decide +kernel
theorem dX7_until_49 : decode cX7_until 49 = .ok (.ireturn, 1) := by decide +kernel
theorem dX7_crane_0 : decode cX7_crane 0 = .ok (.iload_n 1, 1) := by decide +kernel
theorem dX7_crane_1 : decode cX7_crane 1 = .ok (.iconst 0, 1) := by decide +kernel
theorem dX7_crane_2 : decode cX7_crane 2 = .ok (.iconst 1, 1) := by decide +kernel
theorem dX7_crane_3 : decode cX7_crane 3 = .ok (.invokestatic 16, 3) := by decide +kernel
theorem dX7_crane_6 : decode cX7_crane 6 = .ok (.ifCond .eq 12, 3) := by decide +kernel
theorem dX7_crane_9 : decode cX7_crane 9 = .ok (.iload_n 2, 1) := by decide +kernel
theorem dX7_crane_10 : decode cX7_crane 10 = .ok (.iconst 0, 1) := by decide +kernel
theorem dX7_crane_11 : decode cX7_crane 11 = .ok (.iconst 4, 1) := by decide +kernel
theorem dX7_crane_12 : decode cX7_crane 12 = .ok (.invokestatic 16, 3) := by decide +kernel
theorem dX7_crane_15 : decode cX7_crane 15 = .ok (.ifCond .ne 5, 3) := by decide +kernel
theorem dX7_crane_18 : decode cX7_crane 18 = .ok (.iconst (-1), 1) := by decide +kernel
theorem dX7_crane_19 : decode cX7_crane 19 = .ok (.ireturn, 1) := by decide +kernel
theorem dX7_crane_20 : decode cX7_crane 20 = .ok (.iload_n 2, 1) := by decide +kernel
theorem dX7_crane_21 : decode cX7_crane 21 = .ok (.tableswitch 108 0 3 #[31, 41, 68, 78], 31) := by decide +kernel
theorem dX7_crane_52 : decode cX7_crane 52 = .ok (.aload_n 0, 1) := by decide +kernel
theorem dX7_crane_53 : decode cX7_crane 53 = .ok (.getfield 7, 3) := by decide +kernel
theorem dX7_crane_56 : decode cX7_crane 56 = .ok (.bipush 100, 2) := by decide +kernel
theorem dX7_crane_58 : decode cX7_crane 58 = .ok (.iload_n 1, 1) := by decide +kernel
theorem dX7_crane_59 : decode cX7_crane 59 = .ok (.iadd, 1) := by decide +kernel
theorem dX7_crane_60 : decode cX7_crane 60 = .ok (.iaload, 1) := by decide +kernel
theorem dX7_crane_61 : decode cX7_crane 61 = .ok (.ireturn, 1) := by decide +kernel
theorem dX7_crane_62 : decode cX7_crane 62 = .ok (.aload_n 0, 1) := by decide +kernel
theorem dX7_crane_63 : decode cX7_crane 63 = .ok (.getfield 7, 3) := by decide +kernel
theorem dX7_crane_66 : decode cX7_crane 66 = .ok (.bipush 102, 2) := by decide +kernel
theorem dX7_crane_68 : decode cX7_crane 68 = .ok (.iload_n 1, 1) := by decide +kernel
theorem dX7_crane_69 : decode cX7_crane 69 = .ok (.iadd, 1) := by decide +kernel
theorem dX7_crane_70 : decode cX7_crane 70 = .ok (.iaload, 1) := by decide +kernel
theorem dX7_crane_71 : decode cX7_crane 71 = .ok (.ifCond .ge 8, 3) := by decide +kernel
theorem dX7_crane_74 : decode cX7_crane 74 = .ok (.bipush (-4), 2) := by decide +kernel
theorem dX7_crane_76 : decode cX7_crane 76 = .ok (.goto 12, 3) := by decide +kernel
theorem dX7_crane_79 : decode cX7_crane 79 = .ok (.aload_n 0, 1) := by decide +kernel
theorem dX7_crane_80 : decode cX7_crane 80 = .ok (.getfield 7, 3) := by decide +kernel
theorem dX7_crane_83 : decode cX7_crane 83 = .ok (.bipush 102, 2) := by decide +kernel
theorem dX7_crane_85 : decode cX7_crane 85 = .ok (.iload_n 1, 1) := by decide +kernel
theorem dX7_crane_86 : decode cX7_crane 86 = .ok (.iadd, 1) := by decide +kernel
theorem dX7_crane_87 : decode cX7_crane 87 = .ok (.iaload, 1) := by decide +kernel
theorem dX7_crane_88 : decode cX7_crane 88 = .ok (.ireturn, 1) := by decide +kernel
theorem dX7_crane_89 : decode cX7_crane 89 = .ok (.aload_n 0, 1) := by decide +kernel
theorem dX7_crane_90 : decode cX7_crane 90 = .ok (.getfield 7, 3) := by decide +kernel
theorem dX7_crane_93 : decode cX7_crane 93 = .ok (.bipush 104, 2) := by decide +kernel
theorem dX7_crane_95 : decode cX7_crane 95 = .ok (.iload_n 1, 1) := by decide +kernel
theorem dX7_crane_96 : decode cX7_crane 96 = .ok (.iadd, 1) := by decide +kernel
theorem dX7_crane_97 : decode cX7_crane 97 = .ok (.iaload, 1) := by decide +kernel
theorem dX7_crane_98 : decode cX7_crane 98 = .ok (.ireturn, 1) := by decide +kernel
theorem dX7_crane_99 : decode cX7_crane 99 = .ok (.aload_n 0, 1) := by decide +kernel
theorem dX7_crane_100 : decode cX7_crane 100 = .ok (.getfield 7, 3) := by decide +kernel
theorem dX7_crane_103 : decode cX7_crane 103 = .ok (.bipush 104, 2) := by decide +kernel
theorem dX7_crane_105 : decode cX7_crane 105 = .ok (.iload_n 1, 1) := by decide +kernel
theorem dX7_crane_106 : decode cX7_crane 106 = .ok (.iadd, 1) := by decide +kernel
theorem dX7_crane_107 : decode cX7_crane 107 = .ok (.iaload, 1) := by decide +kernel
theorem dX7_crane_108 : decode cX7_crane 108 = .ok (.ifCond .ne 8, 3) := by decide +kernel
theorem dX7_crane_111 : decode cX7_crane 111 = .ok (.bipush (-4), 2) := by decide +kernel
theorem dX7_crane_113 : decode cX7_crane 113 = .ok (.goto 15, 3) := by decide +kernel
theorem dX7_crane_116 : decode cX7_crane 116 = .ok (.aload_n 0, 1) := by decide +kernel
theorem dX7_crane_117 : decode cX7_crane 117 = .ok (.getfield 7, 3) := by decide +kernel
theorem dX7_crane_120 : decode cX7_crane 120 = .ok (.bipush 108, 2) := by decide +kernel
theorem dX7_crane_122 : decode cX7_crane 122 = .ok (.bipush 16, 2) := by decide +kernel
theorem dX7_crane_124 : decode cX7_crane 124 = .ok (.iload_n 1, 1) := by decide +kernel
theorem dX7_crane_125 : decode cX7_crane 125 = .ok (.imul, 1) := by decide +kernel
theorem dX7_crane_126 : decode cX7_crane 126 = .ok (.iadd, 1) := by decide +kernel
theorem dX7_crane_127 : decode cX7_crane 127 = .ok (.iaload, 1) := by decide +kernel
theorem dX7_crane_128 : decode cX7_crane 128 = .ok (.ireturn, 1) := by decide +kernel
theorem dX7_crane_129 : decode cX7_crane 129 = .ok (.aload_n 0, 1) := by decide +kernel
theorem dX7_crane_130 : decode cX7_crane 130 = .ok (.getfield 7, 3) := by decide +kernel
theorem dX7_crane_133 : decode cX7_crane 133 = .ok (.bipush 106, 2) := by decide +kernel
theorem dX7_crane_135 : decode cX7_crane 135 = .ok (.iload_n 1, 1) := by decide +kernel
theorem dX7_crane_136 : decode cX7_crane 136 = .ok (.iadd, 1) := by decide +kernel
theorem dX7_crane_137 : decode cX7_crane 137 = .ok (.iaload, 1) := by decide +kernel
theorem dX7_crane_138 : decode cX7_crane 138 = .ok (.ireturn, 1) := by decide +kernel
theorem dX7_ladle_0 : decode cX7_ladle 0 = .ok (.iload_n 1, 1) := by decide +kernel
theorem dX7_ladle_1 : decode cX7_ladle 1 = .ok (.iconst 0, 1) := by decide +kernel
theorem dX7_ladle_2 : decode cX7_ladle 2 = .ok (.iconst 3, 1) := by decide +kernel
theorem dX7_ladle_3 : decode cX7_ladle 3 = .ok (.invokestatic 16, 3) := by decide +kernel
theorem dX7_ladle_6 : decode cX7_ladle 6 = .ok (.ifCond .eq 18, 3) := by decide +kernel
theorem dX7_ladle_9 : decode cX7_ladle 9 = .ok (.iload_n 2, 1) := by decide +kernel
theorem dX7_ladle_10 : decode cX7_ladle 10 = .ok (.iconst 0, 1) := by decide +kernel
theorem dX7_ladle_11 : decode cX7_ladle 11 = .ok (.bipush 11, 2) := by decide +kernel
theorem dX7_ladle_13 : decode cX7_ladle 13 = .ok (.invokestatic 16, 3) := by decide +kernel
theorem dX7_ladle_16 : decode cX7_ladle 16 = .ok (.ifCond .eq 8, 3) := by decide +kernel
theorem dX7_ladle_19 : decode cX7_ladle 19 = .ok (.iload_n 2, 1) := by decide +kernel
theorem dX7_ladle_20 : decode cX7_ladle 20 = .ok (.iconst 3, 1) := by decide +kernel
theorem dX7_ladle_21 : decode cX7_ladle 21 = .ok (.if_icmp .ne 5, 3) := by decide +kernel
theorem dX7_ladle_24 : decode cX7_ladle 24 = .ok (.iconst (-1), 1) := by decide +kernel
theorem dX7_ladle_25 : decode cX7_ladle 25 = .ok (.ireturn, 1) := by decide +kernel
theorem dX7_ladle_26 : decode cX7_ladle 26 = .ok (.iload_n 2, 1) := by decide +kernel
theorem dX7_ladle_27 : decode cX7_ladle 27 = .ok (.tableswitch 72 0 2 #[25, 35, 62], 25) := by decide +kernel
theorem dX7_ladle_52 : decode cX7_ladle 52 = .ok (.aload_n 0, 1) := by decide +kernel
theorem dX7_ladle_53 : decode cX7_ladle 53 = .ok (.getfield 7, 3) := by decide +kernel
theorem dX7_ladle_56 : decode cX7_ladle 56 = .ok (.bipush 88, 2) := by decide +kernel
theorem dX7_ladle_58 : decode cX7_ladle 58 = .ok (.iload_n 1, 1) := by decide +kernel
theorem dX7_ladle_59 : decode cX7_ladle 59 = .ok (.iadd, 1) := by decide +kernel
theorem dX7_ladle_60 : decode cX7_ladle 60 = .ok (.iaload, 1) := by decide +kernel
theorem dX7_ladle_61 : decode cX7_ladle 61 = .ok (.ireturn, 1) := by decide +kernel
theorem dX7_ladle_62 : decode cX7_ladle 62 = .ok (.aload_n 0, 1) := by decide +kernel
theorem dX7_ladle_63 : decode cX7_ladle 63 = .ok (.getfield 7, 3) := by decide +kernel
theorem dX7_ladle_66 : decode cX7_ladle 66 = .ok (.bipush 92, 2) := by decide +kernel
theorem dX7_ladle_68 : decode cX7_ladle 68 = .ok (.iload_n 1, 1) := by decide +kernel
theorem dX7_ladle_69 : decode cX7_ladle 69 = .ok (.iadd, 1) := by decide +kernel
theorem dX7_ladle_70 : decode cX7_ladle 70 = .ok (.iaload, 1) := by decide +kernel
theorem dX7_ladle_71 : decode cX7_ladle 71 = .ok (.ifCond .ge 8, 3) := by decide +kernel
theorem dX7_ladle_74 : decode cX7_ladle 74 = .ok (.bipush (-4), 2) := by decide +kernel
theorem dX7_ladle_76 : decode cX7_ladle 76 = .ok (.goto 12, 3) := by decide +kernel
theorem dX7_ladle_79 : decode cX7_ladle 79 = .ok (.aload_n 0, 1) := by decide +kernel
theorem dX7_ladle_80 : decode cX7_ladle 80 = .ok (.getfield 7, 3) := by decide +kernel
theorem dX7_ladle_83 : decode cX7_ladle 83 = .ok (.bipush 92, 2) := by decide +kernel
theorem dX7_ladle_85 : decode cX7_ladle 85 = .ok (.iload_n 1, 1) := by decide +kernel
theorem dX7_ladle_86 : decode cX7_ladle 86 = .ok (.iadd, 1) := by decide +kernel
theorem dX7_ladle_87 : decode cX7_ladle 87 = .ok (.iaload, 1) := by decide +kernel
theorem dX7_ladle_88 : decode cX7_ladle 88 = .ok (.ireturn, 1) := by decide +kernel
theorem dX7_ladle_89 : decode cX7_ladle 89 = .ok (.aload_n 0, 1) := by decide +kernel
theorem dX7_ladle_90 : decode cX7_ladle 90 = .ok (.getfield 7, 3) := by decide +kernel
theorem dX7_ladle_93 : decode cX7_ladle 93 = .ok (.bipush 96, 2) := by decide +kernel
theorem dX7_ladle_95 : decode cX7_ladle 95 = .ok (.iload_n 1, 1) := by decide +kernel
theorem dX7_ladle_96 : decode cX7_ladle 96 = .ok (.iadd, 1) := by decide +kernel
theorem dX7_ladle_97 : decode cX7_ladle 97 = .ok (.iaload, 1) := by decide +kernel
theorem dX7_ladle_98 : decode cX7_ladle 98 = .ok (.ireturn, 1) := by decide +kernel
theorem dX7_ladle_99 : decode cX7_ladle 99 = .ok (.iload_n 2, 1) := by decide +kernel
theorem dX7_ladle_100 : decode cX7_ladle 100 = .ok (.bipush 8, 2) := by decide +kernel
theorem dX7_ladle_102 : decode cX7_ladle 102 = .ok (.if_icmp .ge 21, 3) := by decide +kernel
theorem dX7_ladle_105 : decode cX7_ladle 105 = .ok (.aload_n 0, 1) := by decide +kernel
theorem dX7_ladle_106 : decode cX7_ladle 106 = .ok (.getfield 7, 3) := by decide +kernel
theorem dX7_ladle_109 : decode cX7_ladle 109 = .ok (.bipush 16, 2) := by decide +kernel
theorem dX7_ladle_111 : decode cX7_ladle 111 = .ok (.iconst 4, 1) := by decide +kernel
theorem dX7_ladle_112 : decode cX7_ladle 112 = .ok (.iload_n 1, 1) := by decide +kernel
theorem dX7_ladle_113 : decode cX7_ladle 113 = .ok (.imul, 1) := by decide +kernel
theorem dX7_ladle_114 : decode cX7_ladle 114 = .ok (.iadd, 1) := by decide +kernel
theorem dX7_ladle_115 : decode cX7_ladle 115 = .ok (.iload_n 2, 1) := by decide +kernel
theorem dX7_ladle_116 : decode cX7_ladle 116 = .ok (.iadd, 1) := by decide +kernel
theorem dX7_ladle_117 : decode cX7_ladle 117 = .ok (.iconst 4, 1) := by decide +kernel
theorem dX7_ladle_118 : decode cX7_ladle 118 = .ok (.isub, 1) := by decide +kernel
theorem dX7_ladle_119 : decode cX7_ladle 119 = .ok (.iaload, 1) := by decide +kernel
theorem dX7_ladle_120 : decode cX7_ladle 120 = .ok (.goto 19, 3) := by decide +kernel
theorem dX7_ladle_123 : decode cX7_ladle 123 = .ok (.aload_n 0, 1) := by decide +kernel
theorem dX7_ladle_124 : decode cX7_ladle 124 = .ok (.getfield 7, 3) := by decide +kernel
theorem dX7_ladle_127 : decode cX7_ladle 127 = .ok (.bipush 32, 2) := by decide +kernel
theorem dX7_ladle_129 : decode cX7_ladle 129 = .ok (.iconst 4, 1) := by decide +kernel
theorem dX7_ladle_130 : decode cX7_ladle 130 = .ok (.iload_n 1, 1) := by decide +kernel
theorem dX7_ladle_131 : decode cX7_ladle 131 = .ok (.imul, 1) := by decide +kernel
theorem dX7_ladle_132 : decode cX7_ladle 132 = .ok (.iadd, 1) := by decide +kernel
theorem dX7_ladle_133 : decode cX7_ladle 133 = .ok (.iload_n 2, 1) := by decide +kernel
theorem dX7_ladle_134 : decode cX7_ladle 134 = .ok (.iadd, 1) := by decide +kernel
theorem dX7_ladle_135 : decode cX7_ladle 135 = .ok (.bipush 8, 2) := by decide +kernel
theorem dX7_ladle_137 : decode cX7_ladle 137 = .ok (.isub, 1) := by decide +kernel
theorem dX7_ladle_138 : decode cX7_ladle 138 = .ok (.iaload, 1) := by decide +kernel
theorem dX7_ladle_139 : decode cX7_ladle 139 = .ok (.ireturn, 1) := by decide +kernel
theorem dX7_vessel_0 : decode cX7_vessel 0 = .ok (.iload_n 1, 1) := by decide +kernel
theorem dX7_vessel_1 : decode cX7_vessel 1 = .ok (.iconst 0, 1) := by decide +kernel
theorem dX7_vessel_2 : decode cX7_vessel 2 = .ok (.iconst 2, 1) := by decide +kernel
theorem dX7_vessel_3 : decode cX7_vessel 3 = .ok (.invokestatic 16, 3) := by decide +kernel
theorem dX7_vessel_6 : decode cX7_vessel 6 = .ok (.ifCond .eq 13, 3) := by decide +kernel
theorem dX7_vessel_9 : decode cX7_vessel 9 = .ok (.iload_n 2, 1) := by decide +kernel
theorem dX7_vessel_10 : decode cX7_vessel 10 = .ok (.iconst 0, 1) := by decide +kernel
theorem dX7_vessel_11 : decode cX7_vessel 11 = .ok (.bipush 7, 2) := by decide +kernel
theorem dX7_vessel_13 : decode cX7_vessel 13 = .ok (.invokestatic 16, 3) := by decide +kernel
theorem dX7_vessel_16 : decode cX7_vessel 16 = .ok (.ifCond .ne 5, 3) := by decide +kernel
theorem dX7_vessel_19 : decode cX7_vessel 19 = .ok (.iconst (-1), 1) := by decide +kernel
theorem dX7_vessel_20 : decode cX7_vessel 20 = .ok (.ireturn, 1) := by decide +kernel
theorem dX7_vessel_21 : decode cX7_vessel 21 = .ok (.iload_n 2, 1) := by decide +kernel
theorem dX7_vessel_22 : decode cX7_vessel 22 = .ok (.tableswitch 86 0 7 #[46, 56, 86, 86, 86, 86, 66, 76], 46) := by decide +kernel
theorem dX7_vessel_68 : decode cX7_vessel 68 = .ok (.aload_n 0, 1) := by decide +kernel
theorem dX7_vessel_69 : decode cX7_vessel 69 = .ok (.getfield 7, 3) := by decide +kernel
theorem dX7_vessel_72 : decode cX7_vessel 72 = .ok (.bipush 76, 2) := by decide +kernel
theorem dX7_vessel_74 : decode cX7_vessel 74 = .ok (.iload_n 1, 1) := by decide +kernel
theorem dX7_vessel_75 : decode cX7_vessel 75 = .ok (.iadd, 1) := by decide +kernel
theorem dX7_vessel_76 : decode cX7_vessel 76 = .ok (.iaload, 1) := by decide +kernel
theorem dX7_vessel_77 : decode cX7_vessel 77 = .ok (.ireturn, 1) := by decide +kernel
theorem dX7_vessel_78 : decode cX7_vessel 78 = .ok (.aload_n 0, 1) := by decide +kernel
theorem dX7_vessel_79 : decode cX7_vessel 79 = .ok (.getfield 7, 3) := by decide +kernel
theorem dX7_vessel_82 : decode cX7_vessel 82 = .ok (.bipush 79, 2) := by decide +kernel
theorem dX7_vessel_84 : decode cX7_vessel 84 = .ok (.iload_n 1, 1) := by decide +kernel
theorem dX7_vessel_85 : decode cX7_vessel 85 = .ok (.iadd, 1) := by decide +kernel
theorem dX7_vessel_86 : decode cX7_vessel 86 = .ok (.iaload, 1) := by decide +kernel
theorem dX7_vessel_87 : decode cX7_vessel 87 = .ok (.ireturn, 1) := by decide +kernel
theorem dX7_vessel_88 : decode cX7_vessel 88 = .ok (.aload_n 0, 1) := by decide +kernel
theorem dX7_vessel_89 : decode cX7_vessel 89 = .ok (.getfield 7, 3) := by decide +kernel
theorem dX7_vessel_92 : decode cX7_vessel 92 = .ok (.bipush 82, 2) := by decide +kernel
theorem dX7_vessel_94 : decode cX7_vessel 94 = .ok (.iload_n 1, 1) := by decide +kernel
theorem dX7_vessel_95 : decode cX7_vessel 95 = .ok (.iadd, 1) := by decide +kernel
theorem dX7_vessel_96 : decode cX7_vessel 96 = .ok (.iaload, 1) := by decide +kernel
theorem dX7_vessel_97 : decode cX7_vessel 97 = .ok (.ireturn, 1) := by decide +kernel
theorem dX7_vessel_98 : decode cX7_vessel 98 = .ok (.aload_n 0, 1) := by decide +kernel
theorem dX7_vessel_99 : decode cX7_vessel 99 = .ok (.getfield 7, 3) := by decide +kernel
theorem dX7_vessel_102 : decode cX7_vessel 102 = .ok (.bipush 85, 2) := by decide +kernel
theorem dX7_vessel_104 : decode cX7_vessel 104 = .ok (.iload_n 1, 1) := by decide +kernel
theorem dX7_vessel_105 : decode cX7_vessel 105 = .ok (.iadd, 1) := by decide +kernel
theorem dX7_vessel_106 : decode cX7_vessel 106 = .ok (.iaload, 1) := by decide +kernel
theorem dX7_vessel_107 : decode cX7_vessel 107 = .ok (.ireturn, 1) := by decide +kernel
theorem dX7_vessel_108 : decode cX7_vessel 108 = .ok (.aload_n 0, 1) := by decide +kernel
theorem dX7_vessel_109 : decode cX7_vessel 109 = .ok (.getfield 7, 3) := by decide +kernel
theorem dX7_vessel_112 : decode cX7_vessel 112 = .ok (.iconst 4, 1) := by decide +kernel
theorem dX7_vessel_113 : decode cX7_vessel 113 = .ok (.iconst 4, 1) := by decide +kernel
theorem dX7_vessel_114 : decode cX7_vessel 114 = .ok (.iload_n 1, 1) := by decide +kernel
theorem dX7_vessel_115 : decode cX7_vessel 115 = .ok (.imul, 1) := by decide +kernel
theorem dX7_vessel_116 : decode cX7_vessel 116 = .ok (.iadd, 1) := by decide +kernel
theorem dX7_vessel_117 : decode cX7_vessel 117 = .ok (.iload_n 2, 1) := by decide +kernel
theorem dX7_vessel_118 : decode cX7_vessel 118 = .ok (.iadd, 1) := by decide +kernel
theorem dX7_vessel_119 : decode cX7_vessel 119 = .ok (.iconst 2, 1) := by decide +kernel
theorem dX7_vessel_120 : decode cX7_vessel 120 = .ok (.isub, 1) := by decide +kernel
theorem dX7_vessel_121 : decode cX7_vessel 121 = .ok (.iaload, 1) := by decide +kernel
theorem dX7_vessel_122 : decode cX7_vessel 122 = .ok (.ireturn, 1) := by decide +kernel
theorem dX7_several_0 : decode cX7_several 0 = .ok (.iconst 0, 1) := by decide +kernel
theorem dX7_several_1 : decode cX7_several 1 = .ok (.istore 4, 2) := by decide +kernel
theorem dX7_several_3 : decode cX7_several 3 = .ok (.iconst 0, 1) := by decide +kernel
theorem dX7_several_4 : decode cX7_several 4 = .ok (.istore 5, 2) := by decide +kernel
theorem dX7_several_6 : decode cX7_several 6 = .ok (.iload 5, 2) := by decide +kernel
theorem dX7_several_8 : decode cX7_several 8 = .ok (.iload_n 2, 1) := by decide +kernel
theorem dX7_several_9 : decode cX7_several 9 = .ok (.if_icmp .ge 27, 3) := by decide +kernel
theorem dX7_several_12 : decode cX7_several 12 = .ok (.iload 4, 2) := by decide +kernel
theorem dX7_several_14 : decode cX7_several 14 = .ok (.aload_n 0, 1) := by decide +kernel
theorem dX7_several_15 : decode cX7_several 15 = .ok (.getfield 7, 3) := by decide +kernel
theorem dX7_several_18 : decode cX7_several 18 = .ok (.iload_n 1, 1) := by decide +kernel
theorem dX7_several_19 : decode cX7_several 19 = .ok (.iconst 4, 1) := by decide +kernel
theorem dX7_several_20 : decode cX7_several 20 = .ok (.iload 5, 2) := by decide +kernel
theorem dX7_several_22 : decode cX7_several 22 = .ok (.imul, 1) := by decide +kernel
theorem dX7_several_23 : decode cX7_several 23 = .ok (.iadd, 1) := by decide +kernel
theorem dX7_several_24 : decode cX7_several 24 = .ok (.iload_n 3, 1) := by decide +kernel
theorem dX7_several_25 : decode cX7_several 25 = .ok (.iadd, 1) := by decide +kernel
theorem dX7_several_26 : decode cX7_several 26 = .ok (.iaload, 1) := by decide +kernel
theorem dX7_several_27 : decode cX7_several 27 = .ok (.iadd, 1) := by decide +kernel
theorem dX7_several_28 : decode cX7_several 28 = .ok (.istore 4, 2) := by decide +kernel
theorem dX7_several_30 : decode cX7_several 30 = .ok (.iinc 5 1, 3) := by decide +kernel
theorem dX7_several_33 : decode cX7_several 33 = .ok (.goto (-27), 3) := by decide +kernel
theorem dX7_several_36 : decode cX7_several 36 = .ok (.iload 4, 2) := by decide +kernel
theorem dX7_several_38 : decode cX7_several 38 = .ok (.ireturn, 1) := by decide +kernel
theorem dX7_book_0 : decode cX7_book 0 = .ok (.iload_n 1, 1) := by decide +kernel
theorem dX7_book_1 : decode cX7_book 1 = .ok (.iconst 0, 1) := by decide +kernel
theorem dX7_book_2 : decode cX7_book 2 = .ok (.bipush 10, 2) := by decide +kernel
theorem dX7_book_4 : decode cX7_book 4 = .ok (.invokestatic 16, 3) := by decide +kernel
theorem dX7_book_7 : decode cX7_book 7 = .ok (.ifCond .eq 12, 3) := by decide +kernel
theorem dX7_book_10 : decode cX7_book 10 = .ok (.iload_n 2, 1) := by decide +kernel
theorem dX7_book_11 : decode cX7_book 11 = .ok (.iconst 1, 1) := by decide +kernel
theorem dX7_book_12 : decode cX7_book 12 = .ok (.iconst 4, 1) := by decide +kernel
theorem dX7_book_13 : decode cX7_book 13 = .ok (.invokestatic 16, 3) := by decide +kernel
theorem dX7_book_16 : decode cX7_book 16 = .ok (.ifCond .ne 5, 3) := by decide +kernel
theorem dX7_book_19 : decode cX7_book 19 = .ok (.iconst (-1), 1) := by decide +kernel
theorem dX7_book_20 : decode cX7_book 20 = .ok (.ireturn, 1) := by decide +kernel
theorem dX7_book_21 : decode cX7_book 21 = .ok (.iload_n 1, 1) := by decide +kernel
theorem dX7_book_22 : decode cX7_book 22 = .ok (.tableswitch 72 0 3 #[30, 40, 50, 61], 30) := by decide +kernel
theorem dX7_book_52 : decode cX7_book 52 = .ok (.aload_n 0, 1) := by decide +kernel
theorem dX7_book_53 : decode cX7_book 53 = .ok (.iconst 0, 1) := by decide +kernel
theorem dX7_book_54 : decode cX7_book 54 = .ok (.iconst 1, 1) := by decide +kernel
theorem dX7_book_55 : decode cX7_book 55 = .ok (.iload_n 2, 1) := by decide +kernel
theorem dX7_book_56 : decode cX7_book 56 = .ok (.iconst 1, 1) := by decide +kernel
theorem dX7_book_57 : decode cX7_book 57 = .ok (.isub, 1) := by decide +kernel
theorem dX7_book_58 : decode cX7_book 58 = .ok (.invokevirtual 86, 3) := by decide +kernel
theorem dX7_book_61 : decode cX7_book 61 = .ok (.ireturn, 1) := by decide +kernel
theorem dX7_book_62 : decode cX7_book 62 = .ok (.aload_n 0, 1) := by decide +kernel
theorem dX7_book_63 : decode cX7_book 63 = .ok (.iconst 4, 1) := by decide +kernel
theorem dX7_book_64 : decode cX7_book 64 = .ok (.iconst 3, 1) := by decide +kernel
theorem dX7_book_65 : decode cX7_book 65 = .ok (.iload_n 2, 1) := by decide +kernel
theorem dX7_book_66 : decode cX7_book 66 = .ok (.iconst 1, 1) := by decide +kernel
theorem dX7_book_67 : decode cX7_book 67 = .ok (.isub, 1) := by decide +kernel
theorem dX7_book_68 : decode cX7_book 68 = .ok (.invokevirtual 86, 3) := by decide +kernel
theorem dX7_book_71 : decode cX7_book 71 = .ok (.ireturn, 1) := by decide +kernel
theorem dX7_book_72 : decode cX7_book 72 = .ok (.aload_n 0, 1) := by decide +kernel
theorem dX7_book_73 : decode cX7_book 73 = .ok (.bipush 16, 2) := by decide +kernel
theorem dX7_book_75 : decode cX7_book 75 = .ok (.iconst 4, 1) := by decide +kernel
theorem dX7_book_76 : decode cX7_book 76 = .ok (.iload_n 2, 1) := by decide +kernel
theorem dX7_book_77 : decode cX7_book 77 = .ok (.iconst 1, 1) := by decide +kernel
theorem dX7_book_78 : decode cX7_book 78 = .ok (.isub, 1) := by decide +kernel
theorem dX7_book_79 : decode cX7_book 79 = .ok (.invokevirtual 86, 3) := by decide +kernel
theorem dX7_book_82 : decode cX7_book 82 = .ok (.ireturn, 1) := by decide +kernel
theorem dX7_book_83 : decode cX7_book 83 = .ok (.aload_n 0, 1) := by decide +kernel
theorem dX7_book_84 : decode cX7_book 84 = .ok (.bipush 32, 2) := by decide +kernel
theorem dX7_book_86 : decode cX7_book 86 = .ok (.iconst 4, 1) := by decide +kernel
theorem dX7_book_87 : decode cX7_book 87 = .ok (.iload_n 2, 1) := by decide +kernel
theorem dX7_book_88 : decode cX7_book 88 = .ok (.iconst 1, 1) := by decide +kernel
theorem dX7_book_89 : decode cX7_book 89 = .ok (.isub, 1) := by decide +kernel
theorem dX7_book_90 : decode cX7_book 90 = .ok (.invokevirtual 86, 3) := by decide +kernel
theorem dX7_book_93 : decode cX7_book 93 = .ok (.ireturn, 1) := by decide +kernel
theorem dX7_book_94 : decode cX7_book 94 = .ok (.aload_n 0, 1) := by decide +kernel
theorem dX7_book_95 : decode cX7_book 95 = .ok (.getfield 7, 3) := by decide +kernel
theorem dX7_book_98 : decode cX7_book 98 = .ok (.bipush 48, 2) := by decide +kernel
theorem dX7_book_100 : decode cX7_book 100 = .ok (.iconst 4, 1) := by decide +kernel
theorem dX7_book_101 : decode cX7_book 101 = .ok (.iload_n 1, 1) := by decide +kernel
theorem dX7_book_102 : decode cX7_book 102 = .ok (.iconst 4, 1) := by decide +kernel
theorem dX7_book_103 : decode cX7_book 103 = .ok (.isub, 1) := by decide +kernel
theorem dX7_book_104 : decode cX7_book 104 = .ok (.imul, 1) := by decide +kernel
theorem dX7_book_105 : decode cX7_book 105 = .ok (.iadd, 1) := by decide +kernel
theorem dX7_book_106 : decode cX7_book 106 = .ok (.iload_n 2, 1) := by decide +kernel
theorem dX7_book_107 : decode cX7_book 107 = .ok (.iadd, 1) := by decide +kernel
theorem dX7_book_108 : decode cX7_book 108 = .ok (.iconst 1, 1) := by decide +kernel
theorem dX7_book_109 : decode cX7_book 109 = .ok (.isub, 1) := by decide +kernel
theorem dX7_book_110 : decode cX7_book 110 = .ok (.iaload, 1) := by decide +kernel
theorem dX7_book_111 : decode cX7_book 111 = .ok (.ireturn, 1) := by decide +kernel
theorem dX7_count_0 : decode cX7_count 0 = .ok (.iload_n 1, 1) := by decide +kernel
theorem dX7_count_1 : decode cX7_count 1 = .ok (.iconst 0, 1) := by decide +kernel
theorem dX7_count_2 : decode cX7_count 2 = .ok (.bipush 9, 2) := by decide +kernel
theorem dX7_count_4 : decode cX7_count 4 = .ok (.invokestatic 16, 3) := by decide +kernel
theorem dX7_count_7 : decode cX7_count 7 = .ok (.ifCond .ne 5, 3) := by decide +kernel
theorem dX7_count_10 : decode cX7_count 10 = .ok (.iconst (-1), 1) := by decide +kernel
theorem dX7_count_11 : decode cX7_count 11 = .ok (.ireturn, 1) := by decide +kernel
theorem dX7_count_12 : decode cX7_count 12 = .ok (.iload_n 1, 1) := by decide +kernel
theorem dX7_count_13 : decode cX7_count 13 = .ok (.bipush 7, 2) := by decide +kernel
theorem dX7_count_15 : decode cX7_count 15 = .ok (.if_icmp .ne 10, 3) := by decide +kernel
theorem dX7_count_18 : decode cX7_count 18 = .ok (.aload_n 0, 1) := by decide +kernel
theorem dX7_count_19 : decode cX7_count 19 = .ok (.getfield 90, 3) := by decide +kernel
theorem dX7_count_22 : decode cX7_count 22 = .ok (.goto 13, 3) := by decide +kernel
theorem dX7_count_25 : decode cX7_count 25 = .ok (.aload_n 0, 1) := by decide +kernel
theorem dX7_count_26 : decode cX7_count 26 = .ok (.getfield 7, 3) := by decide +kernel
theorem dX7_count_29 : decode cX7_count 29 = .ok (.sipush 140, 3) := by decide +kernel
theorem dX7_count_32 : decode cX7_count 32 = .ok (.iload_n 1, 1) := by decide +kernel
theorem dX7_count_33 : decode cX7_count 33 = .ok (.iadd, 1) := by decide +kernel
theorem dX7_count_34 : decode cX7_count 34 = .ok (.iaload, 1) := by decide +kernel
theorem dX7_count_35 : decode cX7_count 35 = .ok (.ireturn, 1) := by decide +kernel
theorem dX7_keep_0 : decode cX7_keep 0 = .ok (.aload_n 0, 1) := by decide +kernel
theorem dX7_keep_1 : decode cX7_keep 1 = .ok (.getfield 90, 3) := by decide +kernel
theorem dX7_keep_4 : decode cX7_keep 4 = .ok (.bipush 8, 2) := by decide +kernel
theorem dX7_keep_6 : decode cX7_keep 6 = .ok (.if_icmp .ne 6, 3) := by decide +kernel
theorem dX7_keep_9 : decode cX7_keep 9 = .ok (.bipush (-3), 2) := by decide +kernel
theorem dX7_keep_11 : decode cX7_keep 11 = .ok (.ireturn, 1) := by decide +kernel
theorem dX7_keep_12 : decode cX7_keep 12 = .ok (.iconst 0, 1) := by decide +kernel
theorem dX7_keep_13 : decode cX7_keep 13 = .ok (.istore_n 1, 1) := by decide +kernel
theorem dX7_keep_14 : decode cX7_keep 14 = .ok (.iload_n 1, 1) := by decide +kernel
theorem dX7_keep_15 : decode cX7_keep 15 = .ok (.sipush 150, 3) := by decide +kernel
theorem dX7_keep_18 : decode cX7_keep 18 = .ok (.if_icmp .ge 30, 3) := by decide +kernel
theorem dX7_keep_21 : decode cX7_keep 21 = .ok (.aload_n 0, 1) := by decide +kernel
theorem dX7_keep_22 : decode cX7_keep 22 = .ok (.getfield 13, 3) := by decide +kernel
theorem dX7_keep_25 : decode cX7_keep 25 = .ok (.sipush 150, 3) := by decide +kernel
theorem dX7_keep_28 : decode cX7_keep 28 = .ok (.aload_n 0, 1) := by decide +kernel
theorem dX7_keep_29 : decode cX7_keep 29 = .ok (.getfield 90, 3) := by decide +kernel
theorem dX7_keep_32 : decode cX7_keep 32 = .ok (.imul, 1) := by decide +kernel
theorem dX7_keep_33 : decode cX7_keep 33 = .ok (.iload_n 1, 1) := by decide +kernel
theorem dX7_keep_34 : decode cX7_keep 34 = .ok (.iadd, 1) := by decide +kernel
theorem dX7_keep_35 : decode cX7_keep 35 = .ok (.aload_n 0, 1) := by decide +kernel
theorem dX7_keep_36 : decode cX7_keep 36 = .ok (.getfield 7, 3) := by decide +kernel
theorem dX7_keep_39 : decode cX7_keep 39 = .ok (.iload_n 1, 1) := by decide +kernel
theorem dX7_keep_40 : decode cX7_keep 40 = .ok (.iaload, 1) := by decide +kernel
theorem dX7_keep_41 : decode cX7_keep 41 = .ok (.iastore, 1) := by decide +kernel
theorem dX7_keep_42 : decode cX7_keep 42 = .ok (.iinc 1 1, 3) := by decide +kernel
theorem dX7_keep_45 : decode cX7_keep 45 = .ok (.goto (-31), 3) := by decide +kernel
theorem dX7_keep_48 : decode cX7_keep 48 = .ok (.aload_n 0, 1) := by decide +kernel
theorem dX7_keep_49 : decode cX7_keep 49 = .ok (.dup, 1) := by decide +kernel
theorem dX7_keep_50 : decode cX7_keep 50 = .ok (.getfield 90, 3) := by decide +kernel
theorem dX7_keep_53 : decode cX7_keep 53 = .ok (.iconst 1, 1) := by decide +kernel
theorem dX7_keep_54 : decode cX7_keep 54 = .ok (.iadd, 1) := by decide +kernel
theorem dX7_keep_55 : decode cX7_keep 55 = .ok (.putfield 90, 3) := by decide +kernel
theorem dX7_keep_58 : decode cX7_keep 58 = .ok (.aload_n 0, 1) := by decide +kernel
theorem dX7_keep_59 : decode cX7_keep 59 = .ok (.getfield 90, 3) := by decide +kernel
theorem dX7_keep_62 : decode cX7_keep 62 = .ok (.ireturn, 1) := by decide +kernel
theorem dX7_back_0 : decode cX7_back 0 = .ok (.aload_n 0, 1) := by decide +kernel
theorem dX7_back_1 : decode cX7_back 1 = .ok (.getfield 90, 3) := by decide +kernel
theorem dX7_back_4 : decode cX7_back 4 = .ok (.ifCond .ne 6, 3) := by decide +kernel
theorem dX7_back_7 : decode cX7_back 7 = .ok (.bipush (-2), 2) := by decide +kernel
theorem dX7_back_9 : decode cX7_back 9 = .ok (.ireturn, 1) := by decide +kernel
theorem dX7_back_10 : decode cX7_back 10 = .ok (.aload_n 0, 1) := by decide +kernel
theorem dX7_back_11 : decode cX7_back 11 = .ok (.dup, 1) := by decide +kernel
theorem dX7_back_12 : decode cX7_back 12 = .ok (.getfield 90, 3) := by decide +kernel
theorem dX7_back_15 : decode cX7_back 15 = .ok (.iconst 1, 1) := by decide +kernel
theorem dX7_back_16 : decode cX7_back 16 = .ok (.isub, 1) := by decide +kernel
theorem dX7_back_17 : decode cX7_back 17 = .ok (.putfield 90, 3) := by decide +kernel
theorem dX7_back_20 : decode cX7_back 20 = .ok (.iconst 0, 1) := by decide +kernel
theorem dX7_back_21 : decode cX7_back 21 = .ok (.istore_n 1, 1) := by decide +kernel
theorem dX7_back_22 : decode cX7_back 22 = .ok (.iload_n 1, 1) := by decide +kernel
theorem dX7_back_23 : decode cX7_back 23 = .ok (.sipush 150, 3) := by decide +kernel
theorem dX7_back_26 : decode cX7_back 26 = .ok (.if_icmp .ge 30, 3) := by decide +kernel
theorem dX7_back_29 : decode cX7_back 29 = .ok (.aload_n 0, 1) := by decide +kernel
theorem dX7_back_30 : decode cX7_back 30 = .ok (.getfield 7, 3) := by decide +kernel
theorem dX7_back_33 : decode cX7_back 33 = .ok (.iload_n 1, 1) := by decide +kernel
theorem dX7_back_34 : decode cX7_back 34 = .ok (.aload_n 0, 1) := by decide +kernel
theorem dX7_back_35 : decode cX7_back 35 = .ok (.getfield 13, 3) := by decide +kernel
theorem dX7_back_38 : decode cX7_back 38 = .ok (.sipush 150, 3) := by decide +kernel
theorem dX7_back_41 : decode cX7_back 41 = .ok (.aload_n 0, 1) := by decide +kernel
theorem dX7_back_42 : decode cX7_back 42 = .ok (.getfield 90, 3) := by decide +kernel
theorem dX7_back_45 : decode cX7_back 45 = .ok (.imul, 1) := by decide +kernel
theorem dX7_back_46 : decode cX7_back 46 = .ok (.iload_n 1, 1) := by decide +kernel
theorem dX7_back_47 : decode cX7_back 47 = .ok (.iadd, 1) := by decide +kernel
theorem dX7_back_48 : decode cX7_back 48 = .ok (.iaload, 1) := by decide +kernel
theorem dX7_back_49 : decode cX7_back 49 = .ok (.iastore, 1) := by decide +kernel
theorem dX7_back_50 : decode cX7_back 50 = .ok (.iinc 1 1, 3) := by decide +kernel
theorem dX7_back_53 : decode cX7_back 53 = .ok (.goto (-31), 3) := by decide +kernel
theorem dX7_back_56 : decode cX7_back 56 = .ok (.aload_n 0, 1) := by decide +kernel
theorem dX7_back_57 : decode cX7_back 57 = .ok (.getfield 7, 3) := by decide +kernel
theorem dX7_back_60 : decode cX7_back 60 = .ok (.sipush 140, 3) := by decide +kernel
theorem dX7_back_63 : decode cX7_back 63 = .ok (.iaload, 1) := by decide +kernel
theorem dX7_back_64 : decode cX7_back 64 = .ok (.ireturn, 1) := by decide +kernel
theorem dL_law_0 : decode cL_law 0 = .ok (.new 7, 3) := by decide +kernel
theorem dL_law_3 : decode cL_law 3 = .ok (.dup, 1) := by decide +kernel
theorem dL_law_4 : decode cL_law 4 = .ok (.invokespecial 9, 3) := by decide +kernel
theorem dL_law_7 : decode cL_law 7 = .ok (.astore_n 1, 1) := by decide +kernel
theorem dL_law_8 : decode cL_law 8 = .ok (.new 10, 3) := by decide +kernel
theorem dL_law_11 : decode cL_law 11 = .ok (.dup, 1) := by decide +kernel
theorem dL_law_12 : decode cL_law 12 = .ok (.invokespecial 12, 3) := by decide +kernel
theorem dL_law_15 : decode cL_law 15 = .ok (.astore_n 2, 1) := by decide +kernel
theorem dL_law_16 : decode cL_law 16 = .ok (.iconst 0, 1) := by decide +kernel
theorem dL_law_17 : decode cL_law 17 = .ok (.istore_n 3, 1) := by decide +kernel
theorem dL_law_18 : decode cL_law 18 = .ok (.iload_n 3, 1) := by decide +kernel
theorem dL_law_19 : decode cL_law 19 = .ok (.aload_n 0, 1) := by decide +kernel
theorem dL_law_20 : decode cL_law 20 = .ok (.arraylength, 1) := by decide +kernel
theorem dL_law_21 : decode cL_law 21 = .ok (.iconst 4, 1) := by decide +kernel
theorem dL_law_22 : decode cL_law 22 = .ok (.isub, 1) := by decide +kernel
theorem dL_law_23 : decode cL_law 23 = .ok (.if_icmp .gt 528, 3) := by decide +kernel
theorem dL_law_26 : decode cL_law 26 = .ok (.aload_n 0, 1) := by decide +kernel
theorem dL_law_27 : decode cL_law 27 = .ok (.iload_n 3, 1) := by decide +kernel
theorem dL_law_28 : decode cL_law 28 = .ok (.iaload, 1) := by decide +kernel
theorem dL_law_29 : decode cL_law 29 = .ok (.bipush 15, 2) := by decide +kernel
theorem dL_law_31 : decode cL_law 31 = .ok (.iand, 1) := by decide +kernel
theorem dL_law_32 : decode cL_law 32 = .ok (.tableswitch 513 0 14 #[76, 115, 138, 187, 220, 263, 286, 309, 332, 365, 398, 431, 464, 487, 500], 76) := by decide +kernel
theorem dL_law_108 : decode cL_law 108 = .ok (.aload_n 1, 1) := by decide +kernel
theorem dL_law_109 : decode cL_law 109 = .ok (.aload_n 0, 1) := by decide +kernel
theorem dL_law_110 : decode cL_law 110 = .ok (.iload_n 3, 1) := by decide +kernel
theorem dL_law_111 : decode cL_law 111 = .ok (.iconst 1, 1) := by decide +kernel
theorem dL_law_112 : decode cL_law 112 = .ok (.iadd, 1) := by decide +kernel
theorem dL_law_113 : decode cL_law 113 = .ok (.iaload, 1) := by decide +kernel
theorem dL_law_114 : decode cL_law 114 = .ok (.ifCond .eq 7, 3) := by decide +kernel
theorem dL_law_117 : decode cL_law 117 = .ok (.iconst 1, 1) := by decide +kernel
theorem dL_law_118 : decode cL_law 118 = .ok (.goto 4, 3) := by decide +kernel
theorem dL_law_121 : decode cL_law 121 = .ok (.iconst 0, 1) := by decide +kernel
theorem dL_law_122 : decode cL_law 122 = .ok (.invokevirtual 13, 3) := by decide +kernel
theorem dL_law_125 : decode cL_law 125 = .ok (.aload_n 2, 1) := by decide +kernel
theorem dL_law_126 : decode cL_law 126 = .ok (.aload_n 0, 1) := by decide +kernel
theorem dL_law_127 : decode cL_law 127 = .ok (.iload_n 3, 1) := by decide +kernel
theorem dL_law_128 : decode cL_law 128 = .ok (.iconst 1, 1) := by decide +kernel
theorem dL_law_129 : decode cL_law 129 = .ok (.iadd, 1) := by decide +kernel
theorem dL_law_130 : decode cL_law 130 = .ok (.iaload, 1) := by decide +kernel
theorem dL_law_131 : decode cL_law 131 = .ok (.ifCond .eq 7, 3) := by decide +kernel
theorem dL_law_134 : decode cL_law 134 = .ok (.iconst 1, 1) := by decide +kernel
theorem dL_law_135 : decode cL_law 135 = .ok (.goto 4, 3) := by decide +kernel
theorem dL_law_138 : decode cL_law 138 = .ok (.iconst 0, 1) := by decide +kernel
theorem dL_law_139 : decode cL_law 139 = .ok (.invokevirtual 17, 3) := by decide +kernel
theorem dL_law_142 : decode cL_law 142 = .ok (.if_icmp .eq 403, 3) := by decide +kernel
theorem dL_law_145 : decode cL_law 145 = .ok (.iconst 0, 1) := by decide +kernel
theorem dL_law_146 : decode cL_law 146 = .ok (.ireturn, 1) := by decide +kernel
theorem dL_law_147 : decode cL_law 147 = .ok (.aload_n 1, 1) := by decide +kernel
theorem dL_law_148 : decode cL_law 148 = .ok (.aload_n 0, 1) := by decide +kernel
theorem dL_law_149 : decode cL_law 149 = .ok (.iload_n 3, 1) := by decide +kernel
theorem dL_law_150 : decode cL_law 150 = .ok (.iconst 1, 1) := by decide +kernel
theorem dL_law_151 : decode cL_law 151 = .ok (.iadd, 1) := by decide +kernel
theorem dL_law_152 : decode cL_law 152 = .ok (.iaload, 1) := by decide +kernel
theorem dL_law_153 : decode cL_law 153 = .ok (.invokevirtual 18, 3) := by decide +kernel
theorem dL_law_156 : decode cL_law 156 = .ok (.aload_n 2, 1) := by decide +kernel
theorem dL_law_157 : decode cL_law 157 = .ok (.aload_n 0, 1) := by decide +kernel
theorem dL_law_158 : decode cL_law 158 = .ok (.iload_n 3, 1) := by decide +kernel
theorem dL_law_159 : decode cL_law 159 = .ok (.iconst 1, 1) := by decide +kernel
theorem dL_law_160 : decode cL_law 160 = .ok (.iadd, 1) := by decide +kernel
theorem dL_law_161 : decode cL_law 161 = .ok (.iaload, 1) := by decide +kernel
theorem dL_law_162 : decode cL_law 162 = .ok (.invokevirtual 22, 3) := by decide +kernel
theorem dL_law_165 : decode cL_law 165 = .ok (.if_icmp .eq 380, 3) := by decide +kernel
theorem dL_law_168 : decode cL_law 168 = .ok (.iconst 0, 1) := by decide +kernel
theorem dL_law_169 : decode cL_law 169 = .ok (.ireturn, 1) := by decide +kernel
theorem dL_law_170 : decode cL_law 170 = .ok (.aload_n 1, 1) := by decide +kernel
theorem dL_law_171 : decode cL_law 171 = .ok (.aload_n 0, 1) := by decide +kernel
theorem dL_law_172 : decode cL_law 172 = .ok (.iload_n 3, 1) := by decide +kernel
theorem dL_law_173 : decode cL_law 173 = .ok (.iconst 1, 1) := by decide +kernel
theorem dL_law_174 : decode cL_law 174 = .ok (.iadd, 1) := by decide +kernel
theorem dL_law_175 : decode cL_law 175 = .ok (.iaload, 1) := by decide +kernel
theorem dL_law_176 : decode cL_law 176 = .ok (.aload_n 0, 1) := by decide +kernel
theorem dL_law_177 : decode cL_law 177 = .ok (.iload_n 3, 1) := by decide +kernel
theorem dL_law_178 : decode cL_law 178 = .ok (.iconst 2, 1) := by decide +kernel
theorem dL_law_179 : decode cL_law 179 = .ok (.iadd, 1) := by decide +kernel
theorem dL_law_180 : decode cL_law 180 = .ok (.iaload, 1) := by decide +kernel
theorem dL_law_181 : decode cL_law 181 = .ok (.ifCond .eq 7, 3) := by decide +kernel
theorem dL_law_184 : decode cL_law 184 = .ok (.iconst 1, 1) := by decide +kernel
theorem dL_law_185 : decode cL_law 185 = .ok (.goto 4, 3) := by decide +kernel
theorem dL_law_188 : decode cL_law 188 = .ok (.iconst 0, 1) := by decide +kernel
theorem dL_law_189 : decode cL_law 189 = .ok (.invokevirtual 23, 3) := by decide +kernel
theorem dL_law_192 : decode cL_law 192 = .ok (.aload_n 2, 1) := by decide +kernel
theorem dL_law_193 : decode cL_law 193 = .ok (.aload_n 0, 1) := by decide +kernel
theorem dL_law_194 : decode cL_law 194 = .ok (.iload_n 3, 1) := by decide +kernel
theorem dL_law_195 : decode cL_law 195 = .ok (.iconst 1, 1) := by decide +kernel
theorem dL_law_196 : decode cL_law 196 = .ok (.iadd, 1) := by decide +kernel
theorem dL_law_197 : decode cL_law 197 = .ok (.iaload, 1) := by decide +kernel
theorem dL_law_198 : decode cL_law 198 = .ok (.aload_n 0, 1) := by decide +kernel
theorem dL_law_199 : decode cL_law 199 = .ok (.iload_n 3, 1) := by decide +kernel
theorem dL_law_200 : decode cL_law 200 = .ok (.iconst 2, 1) := by decide +kernel
theorem dL_law_201 : decode cL_law 201 = .ok (.iadd, 1) := by decide +kernel
theorem dL_law_202 : decode cL_law 202 = .ok (.iaload, 1) := by decide +kernel
theorem dL_law_203 : decode cL_law 203 = .ok (.ifCond .eq 7, 3) := by decide +kernel
theorem dL_law_206 : decode cL_law 206 = .ok (.iconst 1, 1) := by decide +kernel
theorem dL_law_207 : decode cL_law 207 = .ok (.goto 4, 3) := by decide +kernel
theorem dL_law_210 : decode cL_law 210 = .ok (.iconst 0, 1) := by decide +kernel
theorem dL_law_211 : decode cL_law 211 = .ok (.invokevirtual 27, 3) := by decide +kernel
theorem dL_law_214 : decode cL_law 214 = .ok (.if_icmp .eq 331, 3) := by decide +kernel
theorem dL_law_217 : decode cL_law 217 = .ok (.iconst 0, 1) := by decide +kernel
theorem dL_law_218 : decode cL_law 218 = .ok (.ireturn, 1) := by decide +kernel
theorem dL_law_219 : decode cL_law 219 = .ok (.aload_n 1, 1) := by decide +kernel
theorem dL_law_220 : decode cL_law 220 = .ok (.aload_n 0, 1) := by decide +kernel
theorem dL_law_221 : decode cL_law 221 = .ok (.iload_n 3, 1) := by decide +kernel
theorem dL_law_222 : decode cL_law 222 = .ok (.iconst 1, 1) := by decide +kernel
theorem dL_law_223 : decode cL_law 223 = .ok (.iadd, 1) := by decide +kernel
theorem dL_law_224 : decode cL_law 224 = .ok (.iaload, 1) := by decide +kernel
theorem dL_law_225 : decode cL_law 225 = .ok (.aload_n 0, 1) := by decide +kernel
theorem dL_law_226 : decode cL_law 226 = .ok (.iload_n 3, 1) := by decide +kernel
theorem dL_law_227 : decode cL_law 227 = .ok (.iconst 2, 1) := by decide +kernel
theorem dL_law_228 : decode cL_law 228 = .ok (.iadd, 1) := by decide +kernel
theorem dL_law_229 : decode cL_law 229 = .ok (.iaload, 1) := by decide +kernel
theorem dL_law_230 : decode cL_law 230 = .ok (.invokevirtual 28, 3) := by decide +kernel
theorem dL_law_233 : decode cL_law 233 = .ok (.aload_n 2, 1) := by decide +kernel
theorem dL_law_234 : decode cL_law 234 = .ok (.aload_n 0, 1) := by decide +kernel
theorem dL_law_235 : decode cL_law 235 = .ok (.iload_n 3, 1) := by decide +kernel
theorem dL_law_236 : decode cL_law 236 = .ok (.iconst 1, 1) := by decide +kernel
theorem dL_law_237 : decode cL_law 237 = .ok (.iadd, 1) := by decide +kernel
theorem dL_law_238 : decode cL_law 238 = .ok (.iaload, 1) := by decide +kernel
theorem dL_law_239 : decode cL_law 239 = .ok (.aload_n 0, 1) := by decide +kernel
theorem dL_law_240 : decode cL_law 240 = .ok (.iload_n 3, 1) := by decide +kernel
theorem dL_law_241 : decode cL_law 241 = .ok (.iconst 2, 1) := by decide +kernel
theorem dL_law_242 : decode cL_law 242 = .ok (.iadd, 1) := by decide +kernel
theorem dL_law_243 : decode cL_law 243 = .ok (.iaload, 1) := by decide +kernel
theorem dL_law_244 : decode cL_law 244 = .ok (.invokevirtual 32, 3) := by decide +kernel
theorem dL_law_247 : decode cL_law 247 = .ok (.if_icmp .eq 298, 3) := by decide +kernel
theorem dL_law_250 : decode cL_law 250 = .ok (.iconst 0, 1) := by decide +kernel
theorem dL_law_251 : decode cL_law 251 = .ok (.ireturn, 1) := by decide +kernel
theorem dL_law_252 : decode cL_law 252 = .ok (.aload_n 1, 1) := by decide +kernel
theorem dL_law_253 : decode cL_law 253 = .ok (.aload_n 0, 1) := by decide +kernel
theorem dL_law_254 : decode cL_law 254 = .ok (.iload_n 3, 1) := by decide +kernel
theorem dL_law_255 : decode cL_law 255 = .ok (.iconst 1, 1) := by decide +kernel
theorem dL_law_256 : decode cL_law 256 = .ok (.iadd, 1) := by decide +kernel
theorem dL_law_257 : decode cL_law 257 = .ok (.iaload, 1) := by decide +kernel
theorem dL_law_258 : decode cL_law 258 = .ok (.aload_n 0, 1) := by decide +kernel
theorem dL_law_259 : decode cL_law 259 = .ok (.iload_n 3, 1) := by decide +kernel
theorem dL_law_260 : decode cL_law 260 = .ok (.iconst 2, 1) := by decide +kernel
theorem dL_law_261 : decode cL_law 261 = .ok (.iadd, 1) := by decide +kernel
theorem dL_law_262 : decode cL_law 262 = .ok (.iaload, 1) := by decide +kernel
theorem dL_law_263 : decode cL_law 263 = .ok (.aload_n 0, 1) := by decide +kernel
theorem dL_law_264 : decode cL_law 264 = .ok (.iload_n 3, 1) := by decide +kernel
theorem dL_law_265 : decode cL_law 265 = .ok (.iconst 3, 1) := by decide +kernel
theorem dL_law_266 : decode cL_law 266 = .ok (.iadd, 1) := by decide +kernel
theorem dL_law_267 : decode cL_law 267 = .ok (.iaload, 1) := by decide +kernel
theorem dL_law_268 : decode cL_law 268 = .ok (.invokevirtual 33, 3) := by decide +kernel
theorem dL_law_271 : decode cL_law 271 = .ok (.aload_n 2, 1) := by decide +kernel
theorem dL_law_272 : decode cL_law 272 = .ok (.aload_n 0, 1) := by decide +kernel
theorem dL_law_273 : decode cL_law 273 = .ok (.iload_n 3, 1) := by decide +kernel
theorem dL_law_274 : decode cL_law 274 = .ok (.iconst 1, 1) := by decide +kernel
theorem dL_law_275 : decode cL_law 275 = .ok (.iadd, 1) := by decide +kernel
theorem dL_law_276 : decode cL_law 276 = .ok (.iaload, 1) := by decide +kernel
theorem dL_law_277 : decode cL_law 277 = .ok (.aload_n 0, 1) := by decide +kernel
theorem dL_law_278 : decode cL_law 278 = .ok (.iload_n 3, 1) := by decide +kernel
theorem dL_law_279 : decode cL_law 279 = .ok (.iconst 2, 1) := by decide +kernel
theorem dL_law_280 : decode cL_law 280 = .ok (.iadd, 1) := by decide +kernel
theorem dL_law_281 : decode cL_law 281 = .ok (.iaload, 1) := by decide +kernel
theorem dL_law_282 : decode cL_law 282 = .ok (.aload_n 0, 1) := by decide +kernel
theorem dL_law_283 : decode cL_law 283 = .ok (.iload_n 3, 1) := by decide +kernel
theorem dL_law_284 : decode cL_law 284 = .ok (.iconst 3, 1) := by decide +kernel
theorem dL_law_285 : decode cL_law 285 = .ok (.iadd, 1) := by decide +kernel
theorem dL_law_286 : decode cL_law 286 = .ok (.iaload, 1) := by decide +kernel
theorem dL_law_287 : decode cL_law 287 = .ok (.invokevirtual 37, 3) := by decide +kernel
theorem dL_law_290 : decode cL_law 290 = .ok (.if_icmp .eq 255, 3) := by decide +kernel
theorem dL_law_293 : decode cL_law 293 = .ok (.iconst 0, 1) := by decide +kernel
theorem dL_law_294 : decode cL_law 294 = .ok (.ireturn, 1) := by decide +kernel
theorem dL_law_295 : decode cL_law 295 = .ok (.aload_n 1, 1) := by decide +kernel
theorem dL_law_296 : decode cL_law 296 = .ok (.aload_n 0, 1) := by decide +kernel
theorem dL_law_297 : decode cL_law 297 = .ok (.iload_n 3, 1) := by decide +kernel
theorem dL_law_298 : decode cL_law 298 = .ok (.iconst 1, 1) := by decide +kernel
theorem dL_law_299 : decode cL_law 299 = .ok (.iadd, 1) := by decide +kernel
theorem dL_law_300 : decode cL_law 300 = .ok (.iaload, 1) := by decide +kernel
theorem dL_law_301 : decode cL_law 301 = .ok (.invokevirtual 38, 3) := by decide +kernel
theorem dL_law_304 : decode cL_law 304 = .ok (.aload_n 2, 1) := by decide +kernel
theorem dL_law_305 : decode cL_law 305 = .ok (.aload_n 0, 1) := by decide +kernel
theorem dL_law_306 : decode cL_law 306 = .ok (.iload_n 3, 1) := by decide +kernel
theorem dL_law_307 : decode cL_law 307 = .ok (.iconst 1, 1) := by decide +kernel
theorem dL_law_308 : decode cL_law 308 = .ok (.iadd, 1) := by decide +kernel
theorem dL_law_309 : decode cL_law 309 = .ok (.iaload, 1) := by decide +kernel
theorem dL_law_310 : decode cL_law 310 = .ok (.invokevirtual 41, 3) := by decide +kernel
theorem dL_law_313 : decode cL_law 313 = .ok (.if_icmp .eq 232, 3) := by decide +kernel
theorem dL_law_316 : decode cL_law 316 = .ok (.iconst 0, 1) := by decide +kernel
theorem dL_law_317 : decode cL_law 317 = .ok (.ireturn, 1) := by decide +kernel
theorem dL_law_318 : decode cL_law 318 = .ok (.aload_n 1, 1) := by decide +kernel
theorem dL_law_319 : decode cL_law 319 = .ok (.aload_n 0, 1) := by decide +kernel
theorem dL_law_320 : decode cL_law 320 = .ok (.iload_n 3, 1) := by decide +kernel
theorem dL_law_321 : decode cL_law 321 = .ok (.iconst 1, 1) := by decide +kernel
theorem dL_law_322 : decode cL_law 322 = .ok (.iadd, 1) := by decide +kernel
theorem dL_law_323 : decode cL_law 323 = .ok (.iaload, 1) := by decide +kernel
theorem dL_law_324 : decode cL_law 324 = .ok (.invokevirtual 42, 3) := by decide +kernel
theorem dL_law_327 : decode cL_law 327 = .ok (.aload_n 2, 1) := by decide +kernel
theorem dL_law_328 : decode cL_law 328 = .ok (.aload_n 0, 1) := by decide +kernel
theorem dL_law_329 : decode cL_law 329 = .ok (.iload_n 3, 1) := by decide +kernel
theorem dL_law_330 : decode cL_law 330 = .ok (.iconst 1, 1) := by decide +kernel
theorem dL_law_331 : decode cL_law 331 = .ok (.iadd, 1) := by decide +kernel
theorem dL_law_332 : decode cL_law 332 = .ok (.iaload, 1) := by decide +kernel
theorem dL_law_333 : decode cL_law 333 = .ok (.invokevirtual 45, 3) := by decide +kernel
theorem dL_law_336 : decode cL_law 336 = .ok (.if_icmp .eq 209, 3) := by decide +kernel
theorem dL_law_339 : decode cL_law 339 = .ok (.iconst 0, 1) := by decide +kernel
theorem dL_law_340 : decode cL_law 340 = .ok (.ireturn, 1) := by decide +kernel
theorem dL_law_341 : decode cL_law 341 = .ok (.aload_n 1, 1) := by decide +kernel
theorem dL_law_342 : decode cL_law 342 = .ok (.aload_n 0, 1) := by decide +kernel
theorem dL_law_343 : decode cL_law 343 = .ok (.iload_n 3, 1) := by decide +kernel
theorem dL_law_344 : decode cL_law 344 = .ok (.iconst 1, 1) := by decide +kernel
theorem dL_law_345 : decode cL_law 345 = .ok (.iadd, 1) := by decide +kernel
theorem dL_law_346 : decode cL_law 346 = .ok (.iaload, 1) := by decide +kernel
theorem dL_law_347 : decode cL_law 347 = .ok (.invokevirtual 46, 3) := by decide +kernel
theorem dL_law_350 : decode cL_law 350 = .ok (.aload_n 2, 1) := by decide +kernel
theorem dL_law_351 : decode cL_law 351 = .ok (.aload_n 0, 1) := by decide +kernel
theorem dL_law_352 : decode cL_law 352 = .ok (.iload_n 3, 1) := by decide +kernel
theorem dL_law_353 : decode cL_law 353 = .ok (.iconst 1, 1) := by decide +kernel
theorem dL_law_354 : decode cL_law 354 = .ok (.iadd, 1) := by decide +kernel
theorem dL_law_355 : decode cL_law 355 = .ok (.iaload, 1) := by decide +kernel
theorem dL_law_356 : decode cL_law 356 = .ok (.invokevirtual 49, 3) := by decide +kernel
theorem dL_law_359 : decode cL_law 359 = .ok (.if_icmp .eq 186, 3) := by decide +kernel
theorem dL_law_362 : decode cL_law 362 = .ok (.iconst 0, 1) := by decide +kernel
theorem dL_law_363 : decode cL_law 363 = .ok (.ireturn, 1) := by decide +kernel
theorem dL_law_364 : decode cL_law 364 = .ok (.aload_n 1, 1) := by decide +kernel
theorem dL_law_365 : decode cL_law 365 = .ok (.aload_n 0, 1) := by decide +kernel
theorem dL_law_366 : decode cL_law 366 = .ok (.iload_n 3, 1) := by decide +kernel
theorem dL_law_367 : decode cL_law 367 = .ok (.iconst 1, 1) := by decide +kernel
theorem dL_law_368 : decode cL_law 368 = .ok (.iadd, 1) := by decide +kernel
theorem dL_law_369 : decode cL_law 369 = .ok (.iaload, 1) := by decide +kernel
theorem dL_law_370 : decode cL_law 370 = .ok (.aload_n 0, 1) := by decide +kernel
theorem dL_law_371 : decode cL_law 371 = .ok (.iload_n 3, 1) := by decide +kernel
theorem dL_law_372 : decode cL_law 372 = .ok (.iconst 2, 1) := by decide +kernel
theorem dL_law_373 : decode cL_law 373 = .ok (.iadd, 1) := by decide +kernel
theorem dL_law_374 : decode cL_law 374 = .ok (.iaload, 1) := by decide +kernel
theorem dL_law_375 : decode cL_law 375 = .ok (.invokevirtual 50, 3) := by decide +kernel
theorem dL_law_378 : decode cL_law 378 = .ok (.aload_n 2, 1) := by decide +kernel
theorem dL_law_379 : decode cL_law 379 = .ok (.aload_n 0, 1) := by decide +kernel
theorem dL_law_380 : decode cL_law 380 = .ok (.iload_n 3, 1) := by decide +kernel
theorem dL_law_381 : decode cL_law 381 = .ok (.iconst 1, 1) := by decide +kernel
theorem dL_law_382 : decode cL_law 382 = .ok (.iadd, 1) := by decide +kernel
theorem dL_law_383 : decode cL_law 383 = .ok (.iaload, 1) := by decide +kernel
theorem dL_law_384 : decode cL_law 384 = .ok (.aload_n 0, 1) := by decide +kernel
theorem dL_law_385 : decode cL_law 385 = .ok (.iload_n 3, 1) := by decide +kernel
theorem dL_law_386 : decode cL_law 386 = .ok (.iconst 2, 1) := by decide +kernel
theorem dL_law_387 : decode cL_law 387 = .ok (.iadd, 1) := by decide +kernel
theorem dL_law_388 : decode cL_law 388 = .ok (.iaload, 1) := by decide +kernel
theorem dL_law_389 : decode cL_law 389 = .ok (.invokevirtual 53, 3) := by decide +kernel
theorem dL_law_392 : decode cL_law 392 = .ok (.if_icmp .eq 153, 3) := by decide +kernel
theorem dL_law_395 : decode cL_law 395 = .ok (.iconst 0, 1) := by decide +kernel
theorem dL_law_396 : decode cL_law 396 = .ok (.ireturn, 1) := by decide +kernel
theorem dL_law_397 : decode cL_law 397 = .ok (.aload_n 1, 1) := by decide +kernel
theorem dL_law_398 : decode cL_law 398 = .ok (.aload_n 0, 1) := by decide +kernel
theorem dL_law_399 : decode cL_law 399 = .ok (.iload_n 3, 1) := by decide +kernel
theorem dL_law_400 : decode cL_law 400 = .ok (.iconst 1, 1) := by decide +kernel
theorem dL_law_401 : decode cL_law 401 = .ok (.iadd, 1) := by decide +kernel
theorem dL_law_402 : decode cL_law 402 = .ok (.iaload, 1) := by decide +kernel
theorem dL_law_403 : decode cL_law 403 = .ok (.aload_n 0, 1) := by decide +kernel
theorem dL_law_404 : decode cL_law 404 = .ok (.iload_n 3, 1) := by decide +kernel
theorem dL_law_405 : decode cL_law 405 = .ok (.iconst 2, 1) := by decide +kernel
theorem dL_law_406 : decode cL_law 406 = .ok (.iadd, 1) := by decide +kernel
theorem dL_law_407 : decode cL_law 407 = .ok (.iaload, 1) := by decide +kernel
theorem dL_law_408 : decode cL_law 408 = .ok (.invokevirtual 54, 3) := by decide +kernel
theorem dL_law_411 : decode cL_law 411 = .ok (.aload_n 2, 1) := by decide +kernel
theorem dL_law_412 : decode cL_law 412 = .ok (.aload_n 0, 1) := by decide +kernel
theorem dL_law_413 : decode cL_law 413 = .ok (.iload_n 3, 1) := by decide +kernel
theorem dL_law_414 : decode cL_law 414 = .ok (.iconst 1, 1) := by decide +kernel
theorem dL_law_415 : decode cL_law 415 = .ok (.iadd, 1) := by decide +kernel
theorem dL_law_416 : decode cL_law 416 = .ok (.iaload, 1) := by decide +kernel
theorem dL_law_417 : decode cL_law 417 = .ok (.aload_n 0, 1) := by decide +kernel
theorem dL_law_418 : decode cL_law 418 = .ok (.iload_n 3, 1) := by decide +kernel
theorem dL_law_419 : decode cL_law 419 = .ok (.iconst 2, 1) := by decide +kernel
theorem dL_law_420 : decode cL_law 420 = .ok (.iadd, 1) := by decide +kernel
theorem dL_law_421 : decode cL_law 421 = .ok (.iaload, 1) := by decide +kernel
theorem dL_law_422 : decode cL_law 422 = .ok (.invokevirtual 57, 3) := by decide +kernel
theorem dL_law_425 : decode cL_law 425 = .ok (.if_icmp .eq 120, 3) := by decide +kernel
theorem dL_law_428 : decode cL_law 428 = .ok (.iconst 0, 1) := by decide +kernel
theorem dL_law_429 : decode cL_law 429 = .ok (.ireturn, 1) := by decide +kernel
theorem dL_law_430 : decode cL_law 430 = .ok (.aload_n 1, 1) := by decide +kernel
theorem dL_law_431 : decode cL_law 431 = .ok (.aload_n 0, 1) := by decide +kernel
theorem dL_law_432 : decode cL_law 432 = .ok (.iload_n 3, 1) := by decide +kernel
theorem dL_law_433 : decode cL_law 433 = .ok (.iconst 1, 1) := by decide +kernel
theorem dL_law_434 : decode cL_law 434 = .ok (.iadd, 1) := by decide +kernel
theorem dL_law_435 : decode cL_law 435 = .ok (.iaload, 1) := by decide +kernel
theorem dL_law_436 : decode cL_law 436 = .ok (.aload_n 0, 1) := by decide +kernel
theorem dL_law_437 : decode cL_law 437 = .ok (.iload_n 3, 1) := by decide +kernel
theorem dL_law_438 : decode cL_law 438 = .ok (.iconst 2, 1) := by decide +kernel
theorem dL_law_439 : decode cL_law 439 = .ok (.iadd, 1) := by decide +kernel
theorem dL_law_440 : decode cL_law 440 = .ok (.iaload, 1) := by decide +kernel
theorem dL_law_441 : decode cL_law 441 = .ok (.invokevirtual 58, 3) := by decide +kernel
theorem dL_law_444 : decode cL_law 444 = .ok (.aload_n 2, 1) := by decide +kernel
theorem dL_law_445 : decode cL_law 445 = .ok (.aload_n 0, 1) := by decide +kernel
theorem dL_law_446 : decode cL_law 446 = .ok (.iload_n 3, 1) := by decide +kernel
theorem dL_law_447 : decode cL_law 447 = .ok (.iconst 1, 1) := by decide +kernel
theorem dL_law_448 : decode cL_law 448 = .ok (.iadd, 1) := by decide +kernel
theorem dL_law_449 : decode cL_law 449 = .ok (.iaload, 1) := by decide +kernel
theorem dL_law_450 : decode cL_law 450 = .ok (.aload_n 0, 1) := by decide +kernel
theorem dL_law_451 : decode cL_law 451 = .ok (.iload_n 3, 1) := by decide +kernel
theorem dL_law_452 : decode cL_law 452 = .ok (.iconst 2, 1) := by decide +kernel
theorem dL_law_453 : decode cL_law 453 = .ok (.iadd, 1) := by decide +kernel
theorem dL_law_454 : decode cL_law 454 = .ok (.iaload, 1) := by decide +kernel
theorem dL_law_455 : decode cL_law 455 = .ok (.invokevirtual 61, 3) := by decide +kernel
theorem dL_law_458 : decode cL_law 458 = .ok (.if_icmp .eq 87, 3) := by decide +kernel
theorem dL_law_461 : decode cL_law 461 = .ok (.iconst 0, 1) := by decide +kernel
theorem dL_law_462 : decode cL_law 462 = .ok (.ireturn, 1) := by decide +kernel
theorem dL_law_463 : decode cL_law 463 = .ok (.aload_n 1, 1) := by decide +kernel
theorem dL_law_464 : decode cL_law 464 = .ok (.aload_n 0, 1) := by decide +kernel
theorem dL_law_465 : decode cL_law 465 = .ok (.iload_n 3, 1) := by decide +kernel
theorem dL_law_466 : decode cL_law 466 = .ok (.iconst 1, 1) := by decide +kernel
theorem dL_law_467 : decode cL_law 467 = .ok (.iadd, 1) := by decide +kernel
theorem dL_law_468 : decode cL_law 468 = .ok (.iaload, 1) := by decide +kernel
theorem dL_law_469 : decode cL_law 469 = .ok (.aload_n 0, 1) := by decide +kernel
theorem dL_law_470 : decode cL_law 470 = .ok (.iload_n 3, 1) := by decide +kernel
theorem dL_law_471 : decode cL_law 471 = .ok (.iconst 2, 1) := by decide +kernel
theorem dL_law_472 : decode cL_law 472 = .ok (.iadd, 1) := by decide +kernel
theorem dL_law_473 : decode cL_law 473 = .ok (.iaload, 1) := by decide +kernel
theorem dL_law_474 : decode cL_law 474 = .ok (.invokevirtual 62, 3) := by decide +kernel
theorem dL_law_477 : decode cL_law 477 = .ok (.aload_n 2, 1) := by decide +kernel
theorem dL_law_478 : decode cL_law 478 = .ok (.aload_n 0, 1) := by decide +kernel
theorem dL_law_479 : decode cL_law 479 = .ok (.iload_n 3, 1) := by decide +kernel
theorem dL_law_480 : decode cL_law 480 = .ok (.iconst 1, 1) := by decide +kernel
theorem dL_law_481 : decode cL_law 481 = .ok (.iadd, 1) := by decide +kernel
theorem dL_law_482 : decode cL_law 482 = .ok (.iaload, 1) := by decide +kernel
theorem dL_law_483 : decode cL_law 483 = .ok (.aload_n 0, 1) := by decide +kernel
theorem dL_law_484 : decode cL_law 484 = .ok (.iload_n 3, 1) := by decide +kernel
theorem dL_law_485 : decode cL_law 485 = .ok (.iconst 2, 1) := by decide +kernel
theorem dL_law_486 : decode cL_law 486 = .ok (.iadd, 1) := by decide +kernel
theorem dL_law_487 : decode cL_law 487 = .ok (.iaload, 1) := by decide +kernel
theorem dL_law_488 : decode cL_law 488 = .ok (.invokevirtual 65, 3) := by decide +kernel
theorem dL_law_491 : decode cL_law 491 = .ok (.if_icmp .eq 54, 3) := by decide +kernel
theorem dL_law_494 : decode cL_law 494 = .ok (.iconst 0, 1) := by decide +kernel
theorem dL_law_495 : decode cL_law 495 = .ok (.ireturn, 1) := by decide +kernel
theorem dL_law_496 : decode cL_law 496 = .ok (.aload_n 1, 1) := by decide +kernel
theorem dL_law_497 : decode cL_law 497 = .ok (.aload_n 0, 1) := by decide +kernel
theorem dL_law_498 : decode cL_law 498 = .ok (.iload_n 3, 1) := by decide +kernel
theorem dL_law_499 : decode cL_law 499 = .ok (.iconst 1, 1) := by decide +kernel
theorem dL_law_500 : decode cL_law 500 = .ok (.iadd, 1) := by decide +kernel
theorem dL_law_501 : decode cL_law 501 = .ok (.iaload, 1) := by decide +kernel
theorem dL_law_502 : decode cL_law 502 = .ok (.invokevirtual 66, 3) := by decide +kernel
theorem dL_law_505 : decode cL_law 505 = .ok (.aload_n 2, 1) := by decide +kernel
theorem dL_law_506 : decode cL_law 506 = .ok (.aload_n 0, 1) := by decide +kernel
theorem dL_law_507 : decode cL_law 507 = .ok (.iload_n 3, 1) := by decide +kernel
theorem dL_law_508 : decode cL_law 508 = .ok (.iconst 1, 1) := by decide +kernel
theorem dL_law_509 : decode cL_law 509 = .ok (.iadd, 1) := by decide +kernel
theorem dL_law_510 : decode cL_law 510 = .ok (.iaload, 1) := by decide +kernel
theorem dL_law_511 : decode cL_law 511 = .ok (.invokevirtual 69, 3) := by decide +kernel
theorem dL_law_514 : decode cL_law 514 = .ok (.if_icmp .eq 31, 3) := by decide +kernel
theorem dL_law_517 : decode cL_law 517 = .ok (.iconst 0, 1) := by decide +kernel
theorem dL_law_518 : decode cL_law 518 = .ok (.ireturn, 1) := by decide +kernel
theorem dL_law_519 : decode cL_law 519 = .ok (.aload_n 1, 1) := by decide +kernel
theorem dL_law_520 : decode cL_law 520 = .ok (.invokevirtual 70, 3) := by decide +kernel
theorem dL_law_523 : decode cL_law 523 = .ok (.aload_n 2, 1) := by decide +kernel
theorem dL_law_524 : decode cL_law 524 = .ok (.invokevirtual 74, 3) := by decide +kernel
theorem dL_law_527 : decode cL_law 527 = .ok (.if_icmp .eq 18, 3) := by decide +kernel
theorem dL_law_530 : decode cL_law 530 = .ok (.iconst 0, 1) := by decide +kernel
theorem dL_law_531 : decode cL_law 531 = .ok (.ireturn, 1) := by decide +kernel
theorem dL_law_532 : decode cL_law 532 = .ok (.aload_n 1, 1) := by decide +kernel
theorem dL_law_533 : decode cL_law 533 = .ok (.invokevirtual 75, 3) := by decide +kernel
theorem dL_law_536 : decode cL_law 536 = .ok (.aload_n 2, 1) := by decide +kernel
theorem dL_law_537 : decode cL_law 537 = .ok (.invokevirtual 78, 3) := by decide +kernel
theorem dL_law_540 : decode cL_law 540 = .ok (.if_icmp .eq 5, 3) := by decide +kernel
theorem dL_law_543 : decode cL_law 543 = .ok (.iconst 0, 1) := by decide +kernel
theorem dL_law_544 : decode cL_law 544 = .ok (.ireturn, 1) := by decide +kernel
theorem dL_law_545 : decode cL_law 545 = .ok (.iinc 3 4, 3) := by decide +kernel
theorem dL_law_548 : decode cL_law 548 = .ok (.goto (-530), 3) := by decide +kernel
theorem dL_law_551 : decode cL_law 551 = .ok (.iconst 1, 1) := by decide +kernel
theorem dL_law_552 : decode cL_law 552 = .ok (.ireturn, 1) := by decide +kernel
end
section
/-! small rows for the printed walks -/
theorem rdN {g : St} {i j : Nat} {x v : Int32} (hj : j ≠ i) (hv : g j = v) : upd g i x j = v := by rw [pk_un hj, hv]
theorem rdS {g : St} {i j : Nat} {x : Int32} (hj : j = i) : upd g i x j = x := by rw [hj, pk_us]
section NRM
variable {G : GG} {p : Program} {l : Launch} {e : Env} {R : Room} {s : State} {m : MethodId} {args : Array Value} {below : List Frame} {meth : Method} {c : Code} {H : Heap} {locs : List Loc} {cells slots : Nat} {own : String} {cc : ByteArray} {nL : Nat} {rt : Option FieldType} {nm : String} {A : Nat → Prop} {pc : Nat} {ls : Array Slot} {rest : List Value} {Q : State → Prop} {fr : va_W → va_W} {ad : Nat → Nat} {g : St} {index : Nat} {x : Int32}
theorem nrm_i (k : W p l e R s m args below meth c H locs cells slots Q (F0 m pc ls (.int x :: rest))) : W p l e R s m args below meth c H locs cells slots Q (F0 m pc ls ((some (Value.int x)).toList ++ rest)) := k
theorem nrm_v (k : W p l e R s m args below meth c H locs cells slots Q (F0 m pc ls rest)) : W p l e R s m args below meth c H locs cells slots Q (F0 m pc ls ((none : Option Value).toList ++ rest)) := k
theorem nrm_a {o : Option Nat} {f : Nat → Nat} (kn : ¬ o.isSome = true → W p l e R s m args below meth c H locs cells slots Q (F0 m pc ls (.null :: rest))) (ks : o.isSome = true → W p l e R s m args below meth c H locs cells slots Q (F0 m pc ls (.ref (f (o.getD 0)) :: rest))) : W p l e R s m args below meth c H locs cells slots Q (F0 m pc ls ((some (va_rf (o.map f))).toList ++ rest)) := by
  cases o with
  | none => exact kn (by simp)
  | some q => exact ks rfl

theorem gfi_stuff_copper {t i : Nat} (fr : va_W → va_W) (hfr : Fr fr) (cx : Cx G p R s m args meth c own cc nL rt nm A) (wo : Wo G A s.heap H locs (fr (aw G ad g))) (ht : t < 19) (hn : t ≠ 12) (hi : 4 * t + 0 = i) (hlk : Cond.fieldLink own index "HotAisle$Stuff" "copper" "I" ∈ bw) (hdg : decode cc pc = .ok (.getfield index, 3)) (kk : W p l e R s m args below meth c H locs cells slots Q (F0 m (pc + 3) ls (.int (g i) :: rest))) : W p l e R s m args below meth c H locs cells slots Q (F0 m pc ls (.ref (ad t) :: rest)) := by
  subst hi; exact gf_stuff_copper fr hfr cx wo ht hn hlk hdg kk
theorem pfi_stuff_copper {t i : Nat} (fr : va_W → va_W) (hfr : Fr fr) (cx : Cx G p R s m args meth c own cc nL rt nm A) (wo : Wo G A s.heap H locs (fr (aw G ad g))) (ht : t < 19) (hn : t ≠ 12) (hi : 4 * t + 0 = i) (hlk : Cond.fieldLink own index "HotAisle$Stuff" "copper" "I" ∈ bw) (hdg : decode cc pc = .ok (.putfield index, 3)) (kk : ∀ (H1 : Heap) (locs1 : List Loc) (g1 : St), g1 = upd g i x → Wo G A s.heap H1 locs1 (fr (aw G ad g1)) → W p l e R s m args below meth c H1 locs1 cells slots Q (F0 m (pc + 3) ls rest)) : W p l e R s m args below meth c H locs cells slots Q (F0 m pc ls (.int x :: .ref (ad t) :: rest)) := by
  subst hi; exact pf_stuff_copper fr hfr cx wo ht hn hlk hdg kk
theorem gfi_stuff_iron {t i : Nat} (fr : va_W → va_W) (hfr : Fr fr) (cx : Cx G p R s m args meth c own cc nL rt nm A) (wo : Wo G A s.heap H locs (fr (aw G ad g))) (ht : t < 19) (hn : t ≠ 12) (hi : 4 * t + 1 = i) (hlk : Cond.fieldLink own index "HotAisle$Stuff" "iron" "I" ∈ bw) (hdg : decode cc pc = .ok (.getfield index, 3)) (kk : W p l e R s m args below meth c H locs cells slots Q (F0 m (pc + 3) ls (.int (g i) :: rest))) : W p l e R s m args below meth c H locs cells slots Q (F0 m pc ls (.ref (ad t) :: rest)) := by
  subst hi; exact gf_stuff_iron fr hfr cx wo ht hn hlk hdg kk
theorem pfi_stuff_iron {t i : Nat} (fr : va_W → va_W) (hfr : Fr fr) (cx : Cx G p R s m args meth c own cc nL rt nm A) (wo : Wo G A s.heap H locs (fr (aw G ad g))) (ht : t < 19) (hn : t ≠ 12) (hi : 4 * t + 1 = i) (hlk : Cond.fieldLink own index "HotAisle$Stuff" "iron" "I" ∈ bw) (hdg : decode cc pc = .ok (.putfield index, 3)) (kk : ∀ (H1 : Heap) (locs1 : List Loc) (g1 : St), g1 = upd g i x → Wo G A s.heap H1 locs1 (fr (aw G ad g1)) → W p l e R s m args below meth c H1 locs1 cells slots Q (F0 m (pc + 3) ls rest)) : W p l e R s m args below meth c H locs cells slots Q (F0 m pc ls (.int x :: .ref (ad t) :: rest)) := by
  subst hi; exact pf_stuff_iron fr hfr cx wo ht hn hlk hdg kk
theorem gfi_stuff_sulphur {t i : Nat} (fr : va_W → va_W) (hfr : Fr fr) (cx : Cx G p R s m args meth c own cc nL rt nm A) (wo : Wo G A s.heap H locs (fr (aw G ad g))) (ht : t < 19) (hn : t ≠ 12) (hi : 4 * t + 2 = i) (hlk : Cond.fieldLink own index "HotAisle$Stuff" "sulphur" "I" ∈ bw) (hdg : decode cc pc = .ok (.getfield index, 3)) (kk : W p l e R s m args below meth c H locs cells slots Q (F0 m (pc + 3) ls (.int (g i) :: rest))) : W p l e R s m args below meth c H locs cells slots Q (F0 m pc ls (.ref (ad t) :: rest)) := by
  subst hi; exact gf_stuff_sulphur fr hfr cx wo ht hn hlk hdg kk
theorem pfi_stuff_sulphur {t i : Nat} (fr : va_W → va_W) (hfr : Fr fr) (cx : Cx G p R s m args meth c own cc nL rt nm A) (wo : Wo G A s.heap H locs (fr (aw G ad g))) (ht : t < 19) (hn : t ≠ 12) (hi : 4 * t + 2 = i) (hlk : Cond.fieldLink own index "HotAisle$Stuff" "sulphur" "I" ∈ bw) (hdg : decode cc pc = .ok (.putfield index, 3)) (kk : ∀ (H1 : Heap) (locs1 : List Loc) (g1 : St), g1 = upd g i x → Wo G A s.heap H1 locs1 (fr (aw G ad g1)) → W p l e R s m args below meth c H1 locs1 cells slots Q (F0 m (pc + 3) ls rest)) : W p l e R s m args below meth c H locs cells slots Q (F0 m pc ls (.int x :: .ref (ad t) :: rest)) := by
  subst hi; exact pf_stuff_sulphur fr hfr cx wo ht hn hlk hdg kk
theorem gfi_stuff_slag {t i : Nat} (fr : va_W → va_W) (hfr : Fr fr) (cx : Cx G p R s m args meth c own cc nL rt nm A) (wo : Wo G A s.heap H locs (fr (aw G ad g))) (ht : t < 19) (hn : t ≠ 12) (hi : 4 * t + 3 = i) (hlk : Cond.fieldLink own index "HotAisle$Stuff" "slag" "I" ∈ bw) (hdg : decode cc pc = .ok (.getfield index, 3)) (kk : W p l e R s m args below meth c H locs cells slots Q (F0 m (pc + 3) ls (.int (g i) :: rest))) : W p l e R s m args below meth c H locs cells slots Q (F0 m pc ls (.ref (ad t) :: rest)) := by
  subst hi; exact gf_stuff_slag fr hfr cx wo ht hn hlk hdg kk
theorem pfi_stuff_slag {t i : Nat} (fr : va_W → va_W) (hfr : Fr fr) (cx : Cx G p R s m args meth c own cc nL rt nm A) (wo : Wo G A s.heap H locs (fr (aw G ad g))) (ht : t < 19) (hn : t ≠ 12) (hi : 4 * t + 3 = i) (hlk : Cond.fieldLink own index "HotAisle$Stuff" "slag" "I" ∈ bw) (hdg : decode cc pc = .ok (.putfield index, 3)) (kk : ∀ (H1 : Heap) (locs1 : List Loc) (g1 : St), g1 = upd g i x → Wo G A s.heap H1 locs1 (fr (aw G ad g1)) → W p l e R s m args below meth c H1 locs1 cells slots Q (F0 m (pc + 3) ls rest)) : W p l e R s m args below meth c H locs cells slots Q (F0 m pc ls (.int x :: .ref (ad t) :: rest)) := by
  subst hi; exact pf_stuff_slag fr hfr cx wo ht hn hlk hdg kk
end NRM
theorem fx_X0_init : Fx yX0_init cX0_init 2 (none : Option Jvm.ClassFile.FieldType) 0 := ⟨m_60, m_40, by decide, by decide, by decide +kernel⟩
theorem fx_X0_copyFrom : Fx yX0_copyFrom cX0_copyFrom 3 (none : Option Jvm.ClassFile.FieldType) 1 := ⟨m_592, m_40, by decide, by decide, by decide +kernel⟩
theorem fx_X0_vesselNumbered : Fx yX0_vesselNumbered cX0_vesselNumbered 2 (some (Jvm.ClassFile.FieldType.object "HotAisle$Vessel")) 1 := ⟨m_313, m_40, by decide, by decide, by decide +kernel⟩
theorem fx_X0_vesselAt : Fx yX0_vesselAt cX0_vesselAt 6 (some (Jvm.ClassFile.FieldType.object "HotAisle$Vessel")) 1 := ⟨m_449, m_40, by decide, by decide, by decide +kernel⟩
theorem fx_X0_isFloor : Fx yX0_isFloor cX0_isFloor 2 (some Jvm.ClassFile.FieldType.boolean) 1 := ⟨m_457, m_40, by decide, by decide, by decide +kernel⟩
theorem fx_X0_ladleNumbered : Fx yX0_ladleNumbered cX0_ladleNumbered 2 (some (Jvm.ClassFile.FieldType.object "HotAisle$Ladle")) 1 := ⟨m_433, m_40, by decide, by decide, by decide +kernel⟩
theorem fx_X0_numberOfLadleOn : Fx yX0_numberOfLadleOn cX0_numberOfLadleOn 3 (some Jvm.ClassFile.FieldType.int) 1 := ⟨m_429, m_40, by decide, by decide, by decide +kernel⟩
theorem fx_X0_ladleStandingAt : Fx yX0_ladleStandingAt cX0_ladleStandingAt 6 (some (Jvm.ClassFile.FieldType.object "HotAisle$Ladle")) 1 := ⟨m_445, m_40, by decide, by decide, by decide +kernel⟩
theorem fx_X0_craneNumbered : Fx yX0_craneNumbered cX0_craneNumbered 2 (some (Jvm.ClassFile.FieldType.object "HotAisle$Crane")) 1 := ⟨m_335, m_40, by decide, by decide, by decide +kernel⟩
theorem fx_X0_hasOrders : Fx yX0_hasOrders cX0_hasOrders 1 (some Jvm.ClassFile.FieldType.boolean) 0 := ⟨m_527, m_40, by decide, by decide, by decide +kernel⟩
theorem fx_X0_stuffAt : Fx yX0_stuffAt cX0_stuffAt 3 (some Jvm.ClassFile.FieldType.int) 2 := ⟨m_563, m_40, by decide, by decide, by decide +kernel⟩
theorem fx_X0_inVessels : Fx yX0_inVessels cX0_inVessels 7 (some Jvm.ClassFile.FieldType.int) 1 := ⟨m_568, m_40, by decide, by decide, by decide +kernel⟩
theorem fx_X0_inLadles : Fx yX0_inLadles cX0_inLadles 7 (some Jvm.ClassFile.FieldType.int) 1 := ⟨m_572, m_40, by decide, by decide, by decide +kernel⟩
theorem fx_X0_inSkulls : Fx yX0_inSkulls cX0_inSkulls 7 (some Jvm.ClassFile.FieldType.int) 1 := ⟨m_576, m_40, by decide, by decide, by decide +kernel⟩
theorem fx_X0_passMinute : Fx yX0_passMinute cX0_passMinute 1 (none : Option Jvm.ClassFile.FieldType) 0 := ⟨m_351, m_40, by decide, by decide, by decide +kernel⟩
theorem fx_X0_feedFurnace : Fx yX0_feedFurnace cX0_feedFurnace 1 (none : Option Jvm.ClassFile.FieldType) 0 := ⟨m_355, m_40, by decide, by decide, by decide +kernel⟩
theorem fx_X0_feed : Fx yX0_feed cX0_feed 3 (none : Option Jvm.ClassFile.FieldType) 2 := ⟨m_360, m_40, by decide, by decide, by decide +kernel⟩
theorem fx_X0_blowVessels : Fx yX0_blowVessels cX0_blowVessels 5 (none : Option Jvm.ClassFile.FieldType) 0 := ⟨m_368, m_40, by decide, by decide, by decide +kernel⟩
theorem fx_X0_blowParts : Fx yX0_blowParts cX0_blowParts 5 (none : Option Jvm.ClassFile.FieldType) 1 := ⟨m_372, m_40, by decide, by decide, by decide +kernel⟩
theorem fx_X0_burn : Fx yX0_burn cX0_burn 4 (none : Option Jvm.ClassFile.FieldType) 3 := ⟨m_384, m_40, by decide, by decide, by decide +kernel⟩
theorem fx_X0_castAnode : Fx yX0_castAnode cX0_castAnode 1 (none : Option Jvm.ClassFile.FieldType) 0 := ⟨m_395, m_40, by decide, by decide, by decide +kernel⟩
theorem fx_X0_work : Fx yX0_work cX0_work 4 (none : Option Jvm.ClassFile.FieldType) 2 := ⟨m_399, m_40, by decide, by decide, by decide +kernel⟩
theorem fx_X0_finishFirst : Fx yX0_finishFirst cX0_finishFirst 2 (none : Option Jvm.ClassFile.FieldType) 1 := ⟨m_411, m_40, by decide, by decide, by decide +kernel⟩
theorem fx_X0_stepOrWait : Fx yX0_stepOrWait cX0_stepOrWait 5 (none : Option Jvm.ClassFile.FieldType) 2 := ⟨m_421, m_40, by decide, by decide, by decide +kernel⟩
theorem fx_X0_isCarriedOut : Fx yX0_isCarriedOut cX0_isCarriedOut 4 (some Jvm.ClassFile.FieldType.boolean) 1 := ⟨m_437, m_40, by decide, by decide, by decide +kernel⟩
theorem fx_X0_take : Fx yX0_take cX0_take 3 (some Jvm.ClassFile.FieldType.boolean) 1 := ⟨m_441, m_40, by decide, by decide, by decide +kernel⟩
theorem fx_X0_set : Fx yX0_set cX0_set 2 (some Jvm.ClassFile.FieldType.boolean) 1 := ⟨m_453, m_40, by decide, by decide, by decide +kernel⟩
theorem fx_X0_tap : Fx yX0_tap cX0_tap 8 (some Jvm.ClassFile.FieldType.boolean) 1 := ⟨m_461, m_40, by decide, by decide, by decide +kernel⟩
theorem fx_X0_tapStuff : Fx yX0_tapStuff cX0_tapStuff 4 (none : Option Jvm.ClassFile.FieldType) 3 := ⟨m_470, m_40, by decide, by decide, by decide +kernel⟩
theorem fx_X0_pour : Fx yX0_pour cX0_pour 5 (some Jvm.ClassFile.FieldType.boolean) 2 := ⟨m_474, m_40, by decide, by decide, by decide +kernel⟩
theorem fx_X0_canPour : Fx yX0_canPour cX0_canPour 3 (some Jvm.ClassFile.FieldType.boolean) 3 := ⟨m_482, m_40, by decide, by decide, by decide +kernel⟩
theorem fx_X0_skim : Fx yX0_skim cX0_skim 4 (some Jvm.ClassFile.FieldType.boolean) 2 := ⟨m_507, m_40, by decide, by decide, by decide +kernel⟩
theorem fx_X0_draw : Fx yX0_draw cX0_draw 3 (some Jvm.ClassFile.FieldType.boolean) 2 := ⟨m_510, m_40, by decide, by decide, by decide +kernel⟩
theorem fx_X0_clean : Fx yX0_clean cX0_clean 3 (some Jvm.ClassFile.FieldType.boolean) 1 := ⟨m_518, m_40, by decide, by decide, by decide +kernel⟩
theorem fx_X1_init : Fx yX1_init cX1_init 1 (none : Option Jvm.ClassFile.FieldType) 0 := ⟨m_131, m_43, by decide, by decide, by decide +kernel⟩
theorem fx_X1_answer : Fx yX1_answer cX1_answer 2 (some Jvm.ClassFile.FieldType.int) 1 := ⟨m_584, m_43, by decide, by decide, by decide +kernel⟩
theorem fx_X1_copyFrom : Fx yX1_copyFrom cX1_copyFrom 2 (none : Option Jvm.ClassFile.FieldType) 1 := ⟨m_619, m_43, by decide, by decide, by decide +kernel⟩
theorem fx_X2_init : Fx yX2_init cX2_init 3 (none : Option Jvm.ClassFile.FieldType) 2 := ⟨m_100, m_42, by decide, by decide, by decide +kernel⟩
theorem fx_X2_answer : Fx yX2_answer cX2_answer 2 (some Jvm.ClassFile.FieldType.int) 1 := ⟨m_536, m_42, by decide, by decide, by decide +kernel⟩
theorem fx_X2_firstWhat : Fx yX2_firstWhat cX2_firstWhat 1 (some Jvm.ClassFile.FieldType.int) 0 := ⟨m_407, m_42, by decide, by decide, by decide +kernel⟩
theorem fx_X2_goesWhereItIs : Fx yX2_goesWhereItIs cX2_goesWhereItIs 1 (some Jvm.ClassFile.FieldType.boolean) 0 := ⟨m_403, m_42, by decide, by decide, by decide +kernel⟩
theorem fx_X2_nextPlace : Fx yX2_nextPlace cX2_nextPlace 1 (some Jvm.ClassFile.FieldType.int) 0 := ⟨m_425, m_42, by decide, by decide, by decide +kernel⟩
theorem fx_X2_addOrder : Fx yX2_addOrder cX2_addOrder 3 (some Jvm.ClassFile.FieldType.boolean) 2 := ⟨m_339, m_42, by decide, by decide, by decide +kernel⟩
theorem fx_X2_removeFirst : Fx yX2_removeFirst cX2_removeFirst 2 (none : Option Jvm.ClassFile.FieldType) 0 := ⟨m_415, m_42, by decide, by decide, by decide +kernel⟩
theorem fx_X2_copyFrom : Fx yX2_copyFrom cX2_copyFrom 2 (none : Option Jvm.ClassFile.FieldType) 1 := ⟨m_612, m_42, by decide, by decide, by decide +kernel⟩
theorem fx_X3_init : Fx yX3_init cX3_init 2 (none : Option Jvm.ClassFile.FieldType) 1 := ⟨m_225, m_45, by decide, by decide, by decide +kernel⟩
theorem fx_X3_answer : Fx yX3_answer cX3_answer 2 (some Jvm.ClassFile.FieldType.int) 1 := ⟨m_545, m_45, by decide, by decide, by decide +kernel⟩
theorem fx_X3_room : Fx yX3_room cX3_room 1 (some Jvm.ClassFile.FieldType.int) 0 := ⟨m_465, m_45, by decide, by decide, by decide +kernel⟩
theorem fx_X3_stuffThatFreezes : Fx yX3_stuffThatFreezes cX3_stuffThatFreezes 1 (some Jvm.ClassFile.FieldType.int) 0 := ⟨m_478, m_45, by decide, by decide, by decide +kernel⟩
theorem fx_X3_freeze : Fx yX3_freeze cX3_freeze 5 (none : Option Jvm.ClassFile.FieldType) 1 := ⟨m_486, m_45, by decide, by decide, by decide +kernel⟩
theorem fx_X3_empty : Fx yX3_empty cX3_empty 1 (none : Option Jvm.ClassFile.FieldType) 0 := ⟨m_500, m_45, by decide, by decide, by decide +kernel⟩
theorem fx_X3_copyFrom : Fx yX3_copyFrom cX3_copyFrom 2 (none : Option Jvm.ClassFile.FieldType) 1 := ⟨m_607, m_45, by decide, by decide, by decide +kernel⟩
theorem fx_X4_init : Fx yX4_init cX4_init 1 (none : Option Jvm.ClassFile.FieldType) 0 := ⟨m_66, m_41, by decide, by decide, by decide +kernel⟩
theorem fx_X4_of : Fx yX4_of cX4_of 2 (some Jvm.ClassFile.FieldType.int) 1 := ⟨m_490, m_41, by decide, by decide, by decide +kernel⟩
theorem fx_X4_add : Fx yX4_add cX4_add 3 (none : Option Jvm.ClassFile.FieldType) 2 := ⟨m_364, m_41, by decide, by decide, by decide +kernel⟩
theorem fx_X4_all : Fx yX4_all cX4_all 1 (some Jvm.ClassFile.FieldType.int) 0 := ⟨m_318, m_41, by decide, by decide, by decide +kernel⟩
theorem fx_X4_addAll : Fx yX4_addAll cX4_addAll 2 (none : Option Jvm.ClassFile.FieldType) 1 := ⟨m_496, m_41, by decide, by decide, by decide +kernel⟩
theorem fx_X4_clear : Fx yX4_clear cX4_clear 1 (none : Option Jvm.ClassFile.FieldType) 0 := ⟨m_504, m_41, by decide, by decide, by decide +kernel⟩
theorem fx_X4_copyFrom : Fx yX4_copyFrom cX4_copyFrom 2 (none : Option Jvm.ClassFile.FieldType) 1 := ⟨m_596, m_41, by decide, by decide, by decide +kernel⟩
theorem fx_X5_init : Fx yX5_init cX5_init 2 (none : Option Jvm.ClassFile.FieldType) 1 := ⟨m_190, m_44, by decide, by decide, by decide +kernel⟩
theorem fx_X5_answer : Fx yX5_answer cX5_answer 2 (some Jvm.ClassFile.FieldType.int) 1 := ⟨m_553, m_44, by decide, by decide, by decide +kernel⟩
theorem fx_X5_mixHeat : Fx yX5_mixHeat cX5_mixHeat 5 (none : Option Jvm.ClassFile.FieldType) 2 := ⟨m_326, m_44, by decide, by decide, by decide +kernel⟩
theorem fx_X5_isTooColdOrTooHot : Fx yX5_isTooColdOrTooHot cX5_isTooColdOrTooHot 1 (some Jvm.ClassFile.FieldType.boolean) 0 := ⟨m_376, m_44, by decide, by decide, by decide +kernel⟩
theorem fx_X5_holdsCopperAlone : Fx yX5_holdsCopperAlone cX5_holdsCopperAlone 1 (some Jvm.ClassFile.FieldType.boolean) 0 := ⟨m_514, m_44, by decide, by decide, by decide +kernel⟩
theorem fx_X5_cool : Fx yX5_cool cX5_cool 1 (none : Option Jvm.ClassFile.FieldType) 0 := ⟨m_388, m_44, by decide, by decide, by decide +kernel⟩
theorem fx_X5_copyFrom : Fx yX5_copyFrom cX5_copyFrom 2 (none : Option Jvm.ClassFile.FieldType) 1 := ⟨m_602, m_44, by decide, by decide, by decide +kernel⟩
theorem fx_X6_init : Fx yX6_init cX6_init 2 (none : Option Jvm.ClassFile.FieldType) 0 := ⟨m_52, m_39, by decide, by decide, by decide +kernel⟩
theorem fx_X6_fed : Fx yX6_fed cX6_fed 3 (some Jvm.ClassFile.FieldType.int) 1 := ⟨m_295, m_39, by decide, by decide, by decide +kernel⟩
theorem fx_X6_limit : Fx yX6_limit cX6_limit 3 (some Jvm.ClassFile.FieldType.int) 1 := ⟨m_302, m_39, by decide, by decide, by decide +kernel⟩
theorem fx_X6_blow : Fx yX6_blow cX6_blow 5 (some Jvm.ClassFile.FieldType.int) 2 := ⟨m_309, m_39, by decide, by decide, by decide +kernel⟩
theorem fx_X6_cold : Fx yX6_cold cX6_cold 5 (some Jvm.ClassFile.FieldType.int) 2 := ⟨m_322, m_39, by decide, by decide, by decide +kernel⟩
theorem fx_X6_order : Fx yX6_order cX6_order 5 (some Jvm.ClassFile.FieldType.int) 3 := ⟨m_331, m_39, by decide, by decide, by decide +kernel⟩
theorem fx_X6_drop : Fx yX6_drop cX6_drop 4 (some Jvm.ClassFile.FieldType.int) 1 := ⟨m_343, m_39, by decide, by decide, by decide +kernel⟩
theorem fx_X6_minutes : Fx yX6_minutes cX6_minutes 4 (some Jvm.ClassFile.FieldType.int) 1 := ⟨m_347, m_39, by decide, by decide, by decide +kernel⟩
theorem fx_X6_until : Fx yX6_until cX6_until 3 (some Jvm.ClassFile.FieldType.int) 1 := ⟨m_523, m_39, by decide, by decide, by decide +kernel⟩
theorem fx_X6_crane : Fx yX6_crane cX6_crane 4 (some Jvm.ClassFile.FieldType.int) 2 := ⟨m_531, m_39, by decide, by decide, by decide +kernel⟩
theorem fx_X6_ladle : Fx yX6_ladle cX6_ladle 4 (some Jvm.ClassFile.FieldType.int) 2 := ⟨m_540, m_39, by decide, by decide, by decide +kernel⟩
theorem fx_X6_vessel : Fx yX6_vessel cX6_vessel 4 (some Jvm.ClassFile.FieldType.int) 2 := ⟨m_549, m_39, by decide, by decide, by decide +kernel⟩
theorem fx_X6_book : Fx yX6_book cX6_book 3 (some Jvm.ClassFile.FieldType.int) 2 := ⟨m_559, m_39, by decide, by decide, by decide +kernel⟩
theorem fx_X6_count : Fx yX6_count cX6_count 2 (some Jvm.ClassFile.FieldType.int) 1 := ⟨m_580, m_39, by decide, by decide, by decide +kernel⟩
theorem fx_X6_keep : Fx yX6_keep cX6_keep 1 (some Jvm.ClassFile.FieldType.int) 0 := ⟨m_588, m_39, by decide, by decide, by decide +kernel⟩
theorem fx_X6_back : Fx yX6_back cX6_back 1 (some Jvm.ClassFile.FieldType.int) 0 := ⟨m_624, m_39, by decide, by decide, by decide +kernel⟩
theorem fx_X6_isBetween : Fx yX6_isBetween cX6_isBetween 3 (some Jvm.ClassFile.FieldType.boolean) 3 := ⟨m_305, m_39, by decide, by decide, by decide +kernel⟩
theorem fx_X6_oneIf : Fx yX6_oneIf cX6_oneIf 1 (some Jvm.ClassFile.FieldType.int) 1 := ⟨m_298, m_39, by decide, by decide, by decide +kernel⟩
theorem fx_X6_copyRow : Fx yX6_copyRow cX6_copyRow 3 (none : Option Jvm.ClassFile.FieldType) 2 := ⟨m_615, m_39, by decide, by decide, by decide +kernel⟩
theorem fx_X7_init : Fx yX7_init cX7_init 2 (none : Option Jvm.ClassFile.FieldType) 0 := ⟨m_629, m_46, by decide, by decide, by decide +kernel⟩
theorem fx_X7_in : Fx yX7_in cX7_in 3 (some Jvm.ClassFile.FieldType.boolean) 3 := ⟨m_651, m_46, by decide, by decide, by decide +kernel⟩
theorem fx_X7_fed : Fx yX7_fed cX7_fed 3 (some Jvm.ClassFile.FieldType.int) 1 := ⟨m_644, m_46, by decide, by decide, by decide +kernel⟩
theorem fx_X7_limit : Fx yX7_limit cX7_limit 3 (some Jvm.ClassFile.FieldType.int) 1 := ⟨m_648, m_46, by decide, by decide, by decide +kernel⟩
theorem fx_X7_sum : Fx yX7_sum cX7_sum 2 (some Jvm.ClassFile.FieldType.int) 1 := ⟨m_659, m_46, by decide, by decide, by decide +kernel⟩
theorem fx_X7_blow : Fx yX7_blow cX7_blow 4 (some Jvm.ClassFile.FieldType.int) 2 := ⟨m_655, m_46, by decide, by decide, by decide +kernel⟩
theorem fx_X7_cold : Fx yX7_cold cX7_cold 4 (some Jvm.ClassFile.FieldType.int) 2 := ⟨m_663, m_46, by decide, by decide, by decide +kernel⟩
theorem fx_X7_order : Fx yX7_order cX7_order 4 (some Jvm.ClassFile.FieldType.int) 3 := ⟨m_667, m_46, by decide, by decide, by decide +kernel⟩
theorem fx_X7_drop : Fx yX7_drop cX7_drop 3 (some Jvm.ClassFile.FieldType.int) 1 := ⟨m_671, m_46, by decide, by decide, by decide +kernel⟩
theorem fx_X7_feeds : Fx yX7_feeds cX7_feeds 2 (none : Option Jvm.ClassFile.FieldType) 0 := ⟨m_683, m_46, by decide, by decide, by decide +kernel⟩
theorem fx_X7_blows : Fx yX7_blows cX7_blows 6 (none : Option Jvm.ClassFile.FieldType) 1 := ⟨m_687, m_46, by decide, by decide, by decide +kernel⟩
theorem fx_X7_vesselAt : Fx yX7_vesselAt cX7_vesselAt 1 (some Jvm.ClassFile.FieldType.int) 1 := ⟨m_717, m_46, by decide, by decide, by decide +kernel⟩
theorem fx_X7_isFloor : Fx yX7_isFloor cX7_isFloor 1 (some Jvm.ClassFile.FieldType.boolean) 1 := ⟨m_714, m_46, by decide, by decide, by decide +kernel⟩
theorem fx_X7_standsAt : Fx yX7_standsAt cX7_standsAt 3 (some Jvm.ClassFile.FieldType.int) 1 := ⟨m_707, m_46, by decide, by decide, by decide +kernel⟩
theorem fx_X7_room : Fx yX7_room cX7_room 2 (some Jvm.ClassFile.FieldType.int) 1 := ⟨m_725, m_46, by decide, by decide, by decide +kernel⟩
theorem fx_X7_takes : Fx yX7_takes cX7_takes 4 (some Jvm.ClassFile.FieldType.boolean) 2 := ⟨m_703, m_46, by decide, by decide, by decide +kernel⟩
theorem fx_X7_sets : Fx yX7_sets cX7_sets 4 (some Jvm.ClassFile.FieldType.boolean) 2 := ⟨m_711, m_46, by decide, by decide, by decide +kernel⟩
theorem fx_X7_taps : Fx yX7_taps cX7_taps 10 (some Jvm.ClassFile.FieldType.boolean) 2 := ⟨m_721, m_46, by decide, by decide, by decide +kernel⟩
theorem fx_X7_moves : Fx yX7_moves cX7_moves 5 (none : Option Jvm.ClassFile.FieldType) 4 := ⟨m_729, m_46, by decide, by decide, by decide +kernel⟩
theorem fx_X7_skulls : Fx yX7_skulls cX7_skulls 6 (none : Option Jvm.ClassFile.FieldType) 2 := ⟨m_737, m_46, by decide, by decide, by decide +kernel⟩
theorem fx_X7_pours : Fx yX7_pours cX7_pours 10 (some Jvm.ClassFile.FieldType.boolean) 2 := ⟨m_733, m_46, by decide, by decide, by decide +kernel⟩
theorem fx_X7_skims : Fx yX7_skims cX7_skims 5 (some Jvm.ClassFile.FieldType.boolean) 2 := ⟨m_741, m_46, by decide, by decide, by decide +kernel⟩
theorem fx_X7_draws : Fx yX7_draws cX7_draws 5 (some Jvm.ClassFile.FieldType.boolean) 2 := ⟨m_745, m_46, by decide, by decide, by decide +kernel⟩
theorem fx_X7_cleans : Fx yX7_cleans cX7_cleans 4 (some Jvm.ClassFile.FieldType.boolean) 2 := ⟨m_749, m_46, by decide, by decide, by decide +kernel⟩
theorem fx_X7_does : Fx yX7_does cX7_does 5 (some Jvm.ClassFile.FieldType.boolean) 2 := ⟨m_699, m_46, by decide, by decide, by decide +kernel⟩
theorem fx_X7_finishes : Fx yX7_finishes cX7_finishes 4 (none : Option Jvm.ClassFile.FieldType) 1 := ⟨m_695, m_46, by decide, by decide, by decide +kernel⟩
theorem fx_X7_goes : Fx yX7_goes cX7_goes 4 (none : Option Jvm.ClassFile.FieldType) 1 := ⟨m_691, m_46, by decide, by decide, by decide +kernel⟩
theorem fx_X7_minute : Fx yX7_minute cX7_minute 2 (none : Option Jvm.ClassFile.FieldType) 0 := ⟨m_679, m_46, by decide, by decide, by decide +kernel⟩
theorem fx_X7_minutes : Fx yX7_minutes cX7_minutes 4 (some Jvm.ClassFile.FieldType.int) 1 := ⟨m_675, m_46, by decide, by decide, by decide +kernel⟩
theorem fx_X7_until : Fx yX7_until cX7_until 3 (some Jvm.ClassFile.FieldType.int) 1 := ⟨m_753, m_46, by decide, by decide, by decide +kernel⟩
theorem fx_X7_crane : Fx yX7_crane cX7_crane 3 (some Jvm.ClassFile.FieldType.int) 2 := ⟨m_757, m_46, by decide, by decide, by decide +kernel⟩
theorem fx_X7_ladle : Fx yX7_ladle cX7_ladle 3 (some Jvm.ClassFile.FieldType.int) 2 := ⟨m_761, m_46, by decide, by decide, by decide +kernel⟩
theorem fx_X7_vessel : Fx yX7_vessel cX7_vessel 3 (some Jvm.ClassFile.FieldType.int) 2 := ⟨m_765, m_46, by decide, by decide, by decide +kernel⟩
theorem fx_X7_several : Fx yX7_several cX7_several 6 (some Jvm.ClassFile.FieldType.int) 3 := ⟨m_773, m_46, by decide, by decide, by decide +kernel⟩
theorem fx_X7_book : Fx yX7_book cX7_book 3 (some Jvm.ClassFile.FieldType.int) 2 := ⟨m_769, m_46, by decide, by decide, by decide +kernel⟩
theorem fx_X7_count : Fx yX7_count cX7_count 2 (some Jvm.ClassFile.FieldType.int) 1 := ⟨m_777, m_46, by decide, by decide, by decide +kernel⟩
theorem fx_X7_keep : Fx yX7_keep cX7_keep 2 (some Jvm.ClassFile.FieldType.int) 0 := ⟨m_781, m_46, by decide, by decide, by decide +kernel⟩
theorem fx_X7_back : Fx yX7_back cX7_back 2 (some Jvm.ClassFile.FieldType.int) 0 := ⟨m_785, m_46, by decide, by decide, by decide +kernel⟩
end
