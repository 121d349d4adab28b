section
-- ===== PART A: goes FIRST, ahead of the names: the tables' words, and 'selects' of the private methods out of them =====
/-- a private method of a class that the tables say can be made, by its rows of tables_1 -/
def lw_okq (q : MethodName × Nat) : Prop := (q.1.cls ≠ "java/lang/invoke/MethodHandle" ∧ q.1.cls ≠ "java/lang/invoke/VarHandle") ∧ Cond.instantiable q.1.cls q.2 ∈ tables_1 ∧ Cond.privateMethod q.1 ∈ tables_1 ∧ Cond.instanceMethod q.1 ∈ tables_1
theorem lw_p0 : lw_okq (⟨"FerryDecks", "deckAt", "(I)LFerryDecks$Deck;"⟩, 9) := ⟨⟨by decide +kernel, by decide +kernel⟩, List.mem_of_getElem? (i := 9) (by decide +kernel), List.mem_of_getElem? (i := 114) (by decide +kernel), List.mem_of_getElem? (i := 115) (by decide +kernel)⟩
theorem lw_p1 : lw_okq (⟨"FerryDecks", "vehicleAt", "(I)LFerryDecks$Vehicle;"⟩, 9) := ⟨⟨by decide +kernel, by decide +kernel⟩, List.mem_of_getElem? (i := 9) (by decide +kernel), List.mem_of_getElem? (i := 161) (by decide +kernel), List.mem_of_getElem? (i := 162) (by decide +kernel)⟩
theorem lw_p2 : lw_okq (⟨"FerryDecks", "beginAct", "()V"⟩, 9) := ⟨⟨by decide +kernel, by decide +kernel⟩, List.mem_of_getElem? (i := 9) (by decide +kernel), List.mem_of_getElem? (i := 166) (by decide +kernel), List.mem_of_getElem? (i := 167) (by decide +kernel)⟩
theorem lw_p3 : lw_okq (⟨"FerryDecks$Bodies", "start", "(LFerryDecks$Vehicle;IIII)I"⟩, 3) := ⟨⟨by decide +kernel, by decide +kernel⟩, List.mem_of_getElem? (i := 39) (by decide +kernel), List.mem_of_getElem? (i := 184) (by decide +kernel), List.mem_of_getElem? (i := 185) (by decide +kernel)⟩
theorem lw_p4 : lw_okq (⟨"FerryDecks$Bodies", "lengthBody", "(LFerryDecks$Vehicle;II)I"⟩, 3) := ⟨⟨by decide +kernel, by decide +kernel⟩, List.mem_of_getElem? (i := 39) (by decide +kernel), List.mem_of_getElem? (i := 197) (by decide +kernel), List.mem_of_getElem? (i := 198) (by decide +kernel)⟩
theorem lw_p5 : lw_okq (⟨"FerryDecks$Bodies", "askAbove", "(LFerryDecks$Vehicle;IIII)I"⟩, 3) := ⟨⟨by decide +kernel, by decide +kernel⟩, List.mem_of_getElem? (i := 39) (by decide +kernel), List.mem_of_getElem? (i := 201) (by decide +kernel), List.mem_of_getElem? (i := 202) (by decide +kernel)⟩
theorem lw_p6 : lw_okq (⟨"FerryDecks$Bodies", "feeBody", "(LFerryDecks$Vehicle;III)I"⟩, 3) := ⟨⟨by decide +kernel, by decide +kernel⟩, List.mem_of_getElem? (i := 39) (by decide +kernel), List.mem_of_getElem? (i := 211) (by decide +kernel), List.mem_of_getElem? (i := 212) (by decide +kernel)⟩
theorem lw_p7 : lw_okq (⟨"FerryDecks$Bodies", "askVehicle", "(LFerryDecks$Vehicle;III)I"⟩, 3) := ⟨⟨by decide +kernel, by decide +kernel⟩, List.mem_of_getElem? (i := 39) (by decide +kernel), List.mem_of_getElem? (i := 215) (by decide +kernel), List.mem_of_getElem? (i := 216) (by decide +kernel)⟩
theorem lw_p8 : lw_okq (⟨"FerryDecks$Bodies", "riskBody", "(LFerryDecks$Vehicle;III)I"⟩, 3) := ⟨⟨by decide +kernel, by decide +kernel⟩, List.mem_of_getElem? (i := 39) (by decide +kernel), List.mem_of_getElem? (i := 219) (by decide +kernel), List.mem_of_getElem? (i := 220) (by decide +kernel)⟩
theorem lw_p9 : lw_okq (⟨"FerryDecks$Bodies", "fail", "(I)I"⟩, 3) := ⟨⟨by decide +kernel, by decide +kernel⟩, List.mem_of_getElem? (i := 39) (by decide +kernel), List.mem_of_getElem? (i := 223) (by decide +kernel), List.mem_of_getElem? (i := 224) (by decide +kernel)⟩
theorem lw_p10 : lw_okq (⟨"FerryDecks$Bodies", "takes", "(I)Z"⟩, 3) := ⟨⟨by decide +kernel, by decide +kernel⟩, List.mem_of_getElem? (i := 39) (by decide +kernel), List.mem_of_getElem? (i := 227) (by decide +kernel), List.mem_of_getElem? (i := 228) (by decide +kernel)⟩
theorem lw_p11 : lw_okq (⟨"FerryDecks$Bodies", "lashBody", "(LFerryDecks$Vehicle;III)I"⟩, 3) := ⟨⟨by decide +kernel, by decide +kernel⟩, List.mem_of_getElem? (i := 39) (by decide +kernel), List.mem_of_getElem? (i := 231) (by decide +kernel), List.mem_of_getElem? (i := 232) (by decide +kernel)⟩
theorem lw_p12 : lw_okq (⟨"FerryDecks$Bodies", "lashMixed", "(LFerryDecks$Vehicle;II)I"⟩, 3) := ⟨⟨by decide +kernel, by decide +kernel⟩, List.mem_of_getElem? (i := 39) (by decide +kernel), List.mem_of_getElem? (i := 235) (by decide +kernel), List.mem_of_getElem? (i := 236) (by decide +kernel)⟩
theorem lw_p13 : lw_okq (⟨"FerryDecks$Bodies", "markBody", "(LFerryDecks$Vehicle;II)I"⟩, 3) := ⟨⟨by decide +kernel, by decide +kernel⟩, List.mem_of_getElem? (i := 39) (by decide +kernel), List.mem_of_getElem? (i := 239) (by decide +kernel), List.mem_of_getElem? (i := 240) (by decide +kernel)⟩
theorem lw_p14 : lw_okq (⟨"FerryDecks$Bodies", "pullBody", "(LFerryDecks$Vehicle;III)I"⟩, 3) := ⟨⟨by decide +kernel, by decide +kernel⟩, List.mem_of_getElem? (i := 39) (by decide +kernel), List.mem_of_getElem? (i := 243) (by decide +kernel), List.mem_of_getElem? (i := 244) (by decide +kernel)⟩
theorem lw_p15 : lw_okq (⟨"FerryDecks$Bodies", "hookBody", "(LFerryDecks$Vehicle;II)I"⟩, 3) := ⟨⟨by decide +kernel, by decide +kernel⟩, List.mem_of_getElem? (i := 39) (by decide +kernel), List.mem_of_getElem? (i := 247) (by decide +kernel), List.mem_of_getElem? (i := 248) (by decide +kernel)⟩
def lw_privs_1 : List (MethodName × Nat) := [(⟨"FerryDecks", "deckAt", "(I)LFerryDecks$Deck;"⟩, 9), (⟨"FerryDecks", "vehicleAt", "(I)LFerryDecks$Vehicle;"⟩, 9), (⟨"FerryDecks", "beginAct", "()V"⟩, 9), (⟨"FerryDecks$Bodies", "start", "(LFerryDecks$Vehicle;IIII)I"⟩, 3), (⟨"FerryDecks$Bodies", "lengthBody", "(LFerryDecks$Vehicle;II)I"⟩, 3), (⟨"FerryDecks$Bodies", "askAbove", "(LFerryDecks$Vehicle;IIII)I"⟩, 3), (⟨"FerryDecks$Bodies", "feeBody", "(LFerryDecks$Vehicle;III)I"⟩, 3), (⟨"FerryDecks$Bodies", "askVehicle", "(LFerryDecks$Vehicle;III)I"⟩, 3), (⟨"FerryDecks$Bodies", "riskBody", "(LFerryDecks$Vehicle;III)I"⟩, 3), (⟨"FerryDecks$Bodies", "fail", "(I)I"⟩, 3), (⟨"FerryDecks$Bodies", "takes", "(I)Z"⟩, 3), (⟨"FerryDecks$Bodies", "lashBody", "(LFerryDecks$Vehicle;III)I"⟩, 3), (⟨"FerryDecks$Bodies", "lashMixed", "(LFerryDecks$Vehicle;II)I"⟩, 3), (⟨"FerryDecks$Bodies", "markBody", "(LFerryDecks$Vehicle;II)I"⟩, 3), (⟨"FerryDecks$Bodies", "pullBody", "(LFerryDecks$Vehicle;III)I"⟩, 3), (⟨"FerryDecks$Bodies", "hookBody", "(LFerryDecks$Vehicle;II)I"⟩, 3)]
theorem lw_r1 : ∀ q ∈ lw_privs_1, lw_okq q := List.forall_mem_cons.mpr ⟨lw_p0, List.forall_mem_cons.mpr ⟨lw_p1, List.forall_mem_cons.mpr ⟨lw_p2, List.forall_mem_cons.mpr ⟨lw_p3, List.forall_mem_cons.mpr ⟨lw_p4, List.forall_mem_cons.mpr ⟨lw_p5, List.forall_mem_cons.mpr ⟨lw_p6, List.forall_mem_cons.mpr ⟨lw_p7, List.forall_mem_cons.mpr ⟨lw_p8, List.forall_mem_cons.mpr ⟨lw_p9, List.forall_mem_cons.mpr ⟨lw_p10, List.forall_mem_cons.mpr ⟨lw_p11, List.forall_mem_cons.mpr ⟨lw_p12, List.forall_mem_cons.mpr ⟨lw_p13, List.forall_mem_cons.mpr ⟨lw_p14, List.forall_mem_cons.mpr ⟨lw_p15, fun _ h => absurd h List.not_mem_nil⟩⟩⟩⟩⟩⟩⟩⟩⟩⟩⟩⟩⟩⟩⟩⟩
theorem lw_p16 : lw_okq (⟨"FerryDecks", "endByFailure", "()I"⟩, 9) := ⟨⟨by decide +kernel, by decide +kernel⟩, List.mem_of_getElem? (i := 9) (by decide +kernel), List.mem_of_getElem? (i := 253) (by decide +kernel), List.mem_of_getElem? (i := 254) (by decide +kernel)⟩
theorem lw_p17 : lw_okq (⟨"FerryDecksModel", "takenOn", "(I)I"⟩, 17) := ⟨⟨by decide +kernel, by decide +kernel⟩, List.mem_of_getElem? (i := 318) (by decide +kernel), List.mem_of_getElem? (i := 394) (by decide +kernel), List.mem_of_getElem? (i := 395) (by decide +kernel)⟩
theorem lw_p18 : lw_okq (⟨"FerryDecksModel", "isVehicle", "(I)Z"⟩, 17) := ⟨⟨by decide +kernel, by decide +kernel⟩, List.mem_of_getElem? (i := 318) (by decide +kernel), List.mem_of_getElem? (i := 409) (by decide +kernel), List.mem_of_getElem? (i := 410) (by decide +kernel)⟩
theorem lw_p19 : lw_okq (⟨"FerryDecksModel", "act", "()V"⟩, 17) := ⟨⟨by decide +kernel, by decide +kernel⟩, List.mem_of_getElem? (i := 318) (by decide +kernel), List.mem_of_getElem? (i := 415) (by decide +kernel), List.mem_of_getElem? (i := 416) (by decide +kernel)⟩
theorem lw_p20 : lw_okq (⟨"FerryDecksModel", "asked", "(III)I"⟩, 17) := ⟨⟨by decide +kernel, by decide +kernel⟩, List.mem_of_getElem? (i := 318) (by decide +kernel), List.mem_of_getElem? (i := 425) (by decide +kernel), List.mem_of_getElem? (i := 426) (by decide +kernel)⟩
theorem lw_p21 : lw_okq (⟨"FerryDecksModel", "length", "(I)I"⟩, 17) := ⟨⟨by decide +kernel, by decide +kernel⟩, List.mem_of_getElem? (i := 318) (by decide +kernel), List.mem_of_getElem? (i := 429) (by decide +kernel), List.mem_of_getElem? (i := 430) (by decide +kernel)⟩
theorem lw_p22 : lw_okq (⟨"FerryDecksModel", "began", "(II)V"⟩, 17) := ⟨⟨by decide +kernel, by decide +kernel⟩, List.mem_of_getElem? (i := 318) (by decide +kernel), List.mem_of_getElem? (i := 436) (by decide +kernel), List.mem_of_getElem? (i := 437) (by decide +kernel)⟩
theorem lw_p23 : lw_okq (⟨"FerryDecksModel", "fee", "(II)I"⟩, 17) := ⟨⟨by decide +kernel, by decide +kernel⟩, List.mem_of_getElem? (i := 318) (by decide +kernel), List.mem_of_getElem? (i := 440) (by decide +kernel), List.mem_of_getElem? (i := 441) (by decide +kernel)⟩
theorem lw_p24 : lw_okq (⟨"FerryDecksModel", "carFee", "(I)I"⟩, 17) := ⟨⟨by decide +kernel, by decide +kernel⟩, List.mem_of_getElem? (i := 318) (by decide +kernel), List.mem_of_getElem? (i := 444) (by decide +kernel), List.mem_of_getElem? (i := 445) (by decide +kernel)⟩
theorem lw_p25 : lw_okq (⟨"FerryDecksModel", "plainFee", "(I)I"⟩, 17) := ⟨⟨by decide +kernel, by decide +kernel⟩, List.mem_of_getElem? (i := 318) (by decide +kernel), List.mem_of_getElem? (i := 448) (by decide +kernel), List.mem_of_getElem? (i := 449) (by decide +kernel)⟩
theorem lw_p26 : lw_okq (⟨"FerryDecksModel", "camperFee", "(II)I"⟩, 17) := ⟨⟨by decide +kernel, by decide +kernel⟩, List.mem_of_getElem? (i := 318) (by decide +kernel), List.mem_of_getElem? (i := 452) (by decide +kernel), List.mem_of_getElem? (i := 453) (by decide +kernel)⟩
theorem lw_p27 : lw_okq (⟨"FerryDecksModel", "tankerFee", "(I)I"⟩, 17) := ⟨⟨by decide +kernel, by decide +kernel⟩, List.mem_of_getElem? (i := 318) (by decide +kernel), List.mem_of_getElem? (i := 456) (by decide +kernel), List.mem_of_getElem? (i := 457) (by decide +kernel)⟩
theorem lw_p28 : lw_okq (⟨"FerryDecksModel", "riskOf", "(II)I"⟩, 17) := ⟨⟨by decide +kernel, by decide +kernel⟩, List.mem_of_getElem? (i := 318) (by decide +kernel), List.mem_of_getElem? (i := 460) (by decide +kernel), List.mem_of_getElem? (i := 461) (by decide +kernel)⟩
theorem lw_p29 : lw_okq (⟨"FerryDecksModel", "plainRisk", "(I)I"⟩, 17) := ⟨⟨by decide +kernel, by decide +kernel⟩, List.mem_of_getElem? (i := 318) (by decide +kernel), List.mem_of_getElem? (i := 464) (by decide +kernel), List.mem_of_getElem? (i := 465) (by decide +kernel)⟩
theorem lw_p30 : lw_okq (⟨"FerryDecksModel", "fails", "(I)I"⟩, 17) := ⟨⟨by decide +kernel, by decide +kernel⟩, List.mem_of_getElem? (i := 318) (by decide +kernel), List.mem_of_getElem? (i := 468) (by decide +kernel), List.mem_of_getElem? (i := 469) (by decide +kernel)⟩
theorem lw_p31 : lw_okq (⟨"FerryDecksModel", "taken", "(III)I"⟩, 17) := ⟨⟨by decide +kernel, by decide +kernel⟩, List.mem_of_getElem? (i := 318) (by decide +kernel), List.mem_of_getElem? (i := 472) (by decide +kernel), List.mem_of_getElem? (i := 473) (by decide +kernel)⟩
def lw_privs_2 : List (MethodName × Nat) := [(⟨"FerryDecks", "endByFailure", "()I"⟩, 9), (⟨"FerryDecksModel", "takenOn", "(I)I"⟩, 17), (⟨"FerryDecksModel", "isVehicle", "(I)Z"⟩, 17), (⟨"FerryDecksModel", "act", "()V"⟩, 17), (⟨"FerryDecksModel", "asked", "(III)I"⟩, 17), (⟨"FerryDecksModel", "length", "(I)I"⟩, 17), (⟨"FerryDecksModel", "began", "(II)V"⟩, 17), (⟨"FerryDecksModel", "fee", "(II)I"⟩, 17), (⟨"FerryDecksModel", "carFee", "(I)I"⟩, 17), (⟨"FerryDecksModel", "plainFee", "(I)I"⟩, 17), (⟨"FerryDecksModel", "camperFee", "(II)I"⟩, 17), (⟨"FerryDecksModel", "tankerFee", "(I)I"⟩, 17), (⟨"FerryDecksModel", "riskOf", "(II)I"⟩, 17), (⟨"FerryDecksModel", "plainRisk", "(I)I"⟩, 17), (⟨"FerryDecksModel", "fails", "(I)I"⟩, 17), (⟨"FerryDecksModel", "taken", "(III)I"⟩, 17)]
theorem lw_r2 : ∀ q ∈ lw_privs_2, lw_okq q := List.forall_mem_cons.mpr ⟨lw_p16, List.forall_mem_cons.mpr ⟨lw_p17, List.forall_mem_cons.mpr ⟨lw_p18, List.forall_mem_cons.mpr ⟨lw_p19, List.forall_mem_cons.mpr ⟨lw_p20, List.forall_mem_cons.mpr ⟨lw_p21, List.forall_mem_cons.mpr ⟨lw_p22, List.forall_mem_cons.mpr ⟨lw_p23, List.forall_mem_cons.mpr ⟨lw_p24, List.forall_mem_cons.mpr ⟨lw_p25, List.forall_mem_cons.mpr ⟨lw_p26, List.forall_mem_cons.mpr ⟨lw_p27, List.forall_mem_cons.mpr ⟨lw_p28, List.forall_mem_cons.mpr ⟨lw_p29, List.forall_mem_cons.mpr ⟨lw_p30, List.forall_mem_cons.mpr ⟨lw_p31, fun _ h => absurd h List.not_mem_nil⟩⟩⟩⟩⟩⟩⟩⟩⟩⟩⟩⟩⟩⟩⟩⟩
theorem lw_p32 : lw_okq (⟨"FerryDecksModel", "truckRisk", "(II)I"⟩, 17) := ⟨⟨by decide +kernel, by decide +kernel⟩, List.mem_of_getElem? (i := 318) (by decide +kernel), List.mem_of_getElem? (i := 476) (by decide +kernel), List.mem_of_getElem? (i := 477) (by decide +kernel)⟩
theorem lw_p33 : lw_okq (⟨"FerryDecksModel", "gasRisk", "(II)I"⟩, 17) := ⟨⟨by decide +kernel, by decide +kernel⟩, List.mem_of_getElem? (i := 318) (by decide +kernel), List.mem_of_getElem? (i := 480) (by decide +kernel), List.mem_of_getElem? (i := 481) (by decide +kernel)⟩
theorem lw_p34 : lw_okq (⟨"FerryDecksModel", "lash", "(II)I"⟩, 17) := ⟨⟨by decide +kernel, by decide +kernel⟩, List.mem_of_getElem? (i := 318) (by decide +kernel), List.mem_of_getElem? (i := 484) (by decide +kernel), List.mem_of_getElem? (i := 485) (by decide +kernel)⟩
theorem lw_p35 : lw_okq (⟨"FerryDecksModel", "plainLash", "(II)I"⟩, 17) := ⟨⟨by decide +kernel, by decide +kernel⟩, List.mem_of_getElem? (i := 318) (by decide +kernel), List.mem_of_getElem? (i := 488) (by decide +kernel), List.mem_of_getElem? (i := 489) (by decide +kernel)⟩
theorem lw_p36 : lw_okq (⟨"FerryDecksModel", "vanLash", "(II)I"⟩, 17) := ⟨⟨by decide +kernel, by decide +kernel⟩, List.mem_of_getElem? (i := 318) (by decide +kernel), List.mem_of_getElem? (i := 492) (by decide +kernel), List.mem_of_getElem? (i := 493) (by decide +kernel)⟩
theorem lw_p37 : lw_okq (⟨"FerryDecksModel", "tankerLash", "(II)I"⟩, 17) := ⟨⟨by decide +kernel, by decide +kernel⟩, List.mem_of_getElem? (i := 318) (by decide +kernel), List.mem_of_getElem? (i := 496) (by decide +kernel), List.mem_of_getElem? (i := 497) (by decide +kernel)⟩
theorem lw_p38 : lw_okq (⟨"FerryDecksModel", "gasLash", "(II)I"⟩, 17) := ⟨⟨by decide +kernel, by decide +kernel⟩, List.mem_of_getElem? (i := 318) (by decide +kernel), List.mem_of_getElem? (i := 500) (by decide +kernel), List.mem_of_getElem? (i := 501) (by decide +kernel)⟩
theorem lw_p39 : lw_okq (⟨"FerryDecksModel", "mark", "(I)I"⟩, 17) := ⟨⟨by decide +kernel, by decide +kernel⟩, List.mem_of_getElem? (i := 318) (by decide +kernel), List.mem_of_getElem? (i := 504) (by decide +kernel), List.mem_of_getElem? (i := 505) (by decide +kernel)⟩
theorem lw_p40 : lw_okq (⟨"FerryDecksModel", "pulls", "(II)I"⟩, 17) := ⟨⟨by decide +kernel, by decide +kernel⟩, List.mem_of_getElem? (i := 318) (by decide +kernel), List.mem_of_getElem? (i := 508) (by decide +kernel), List.mem_of_getElem? (i := 509) (by decide +kernel)⟩
theorem lw_p41 : lw_okq (⟨"FerryDecksModel", "hook", "(I)I"⟩, 17) := ⟨⟨by decide +kernel, by decide +kernel⟩, List.mem_of_getElem? (i := 318) (by decide +kernel), List.mem_of_getElem? (i := 512) (by decide +kernel), List.mem_of_getElem? (i := 513) (by decide +kernel)⟩
def lw_privs_3 : List (MethodName × Nat) := [(⟨"FerryDecksModel", "truckRisk", "(II)I"⟩, 17), (⟨"FerryDecksModel", "gasRisk", "(II)I"⟩, 17), (⟨"FerryDecksModel", "lash", "(II)I"⟩, 17), (⟨"FerryDecksModel", "plainLash", "(II)I"⟩, 17), (⟨"FerryDecksModel", "vanLash", "(II)I"⟩, 17), (⟨"FerryDecksModel", "tankerLash", "(II)I"⟩, 17), (⟨"FerryDecksModel", "gasLash", "(II)I"⟩, 17), (⟨"FerryDecksModel", "mark", "(I)I"⟩, 17), (⟨"FerryDecksModel", "pulls", "(II)I"⟩, 17), (⟨"FerryDecksModel", "hook", "(I)I"⟩, 17)]
theorem lw_r3 : ∀ q ∈ lw_privs_3, lw_okq q := List.forall_mem_cons.mpr ⟨lw_p32, List.forall_mem_cons.mpr ⟨lw_p33, List.forall_mem_cons.mpr ⟨lw_p34, List.forall_mem_cons.mpr ⟨lw_p35, List.forall_mem_cons.mpr ⟨lw_p36, List.forall_mem_cons.mpr ⟨lw_p37, List.forall_mem_cons.mpr ⟨lw_p38, List.forall_mem_cons.mpr ⟨lw_p39, List.forall_mem_cons.mpr ⟨lw_p40, List.forall_mem_cons.mpr ⟨lw_p41, fun _ h => absurd h List.not_mem_nil⟩⟩⟩⟩⟩⟩⟩⟩⟩⟩
def lw_privs : List (MethodName × Nat) := lw_privs_1 ++ (lw_privs_2 ++ (lw_privs_3))
def lw_tbl : List Cond := k2_sels lw_privs ++ tables_1
theorem lw_privs_ok : ∀ q ∈ lw_privs, lw_okq q := by
  show ∀ q ∈ lw_privs_1 ++ (lw_privs_2 ++ (lw_privs_3)), lw_okq q
  exact List.forall_mem_append.mpr ⟨lw_r1, List.forall_mem_append.mpr ⟨lw_r2, lw_r3⟩⟩
end
section
/-! ===== BEGIN words of one list among another's, by their places ===== -/
theorem goodIn_r {big : List Cond} (ws : List Cond) (ps : List Nat) (hp : ws = ps.filterMap (fun i => big[i]?)) (h : ws.all goodWord = true) : GoodIn big ws := by
  intro w hw
  have h1 := List.all_eq_true.mp h w hw
  rw [hp] at hw
  obtain ⟨i, -, hi⟩ := List.mem_filterMap.mp hw
  have hm : w ∈ big := by first | exact List.mem_of_getElem? hi | exact List.getElem?_mem hi
  exact ⟨hm, good_of_word h1⟩
theorem goodIn_app {big a b : List Cond} (ha : GoodIn big a) (hb : GoodIn big b) : GoodIn big (a ++ b) := fun w h => (List.mem_append.mp h).elim (ha w) (hb w)
theorem goodIn_ca {big a b : List Cond} {c : Cond} (ha : GoodIn big (c :: a)) (hb : GoodIn big b) : GoodIn big (c :: (a ++ b)) := fun w h => (List.mem_cons.mp h).elim (fun e => ha w (List.mem_cons.mpr (Or.inl e))) (fun h => (List.mem_append.mp h).elim (fun h => ha w (List.mem_cons.mpr (Or.inr h))) (hb w))
theorem goodIn_sub {big ws : List Cond} (hm : ∀ w ∈ ws, w ∈ big) (h : ws.all goodWord = true) : GoodIn big ws := fun w hw => ⟨hm w hw, good_of_word (List.all_eq_true.mp h w hw)⟩
/-! ===== END ===== -/

/-! ===== BEGIN printed: names, fields, word lists, decode rows ===== -/
def RX0 : String := "FerryDecks$Bodies"
def TX0 : u_T := fun k => match k with
  | 0 => ("FerryDecks$Bodies", "terms", "[I", true)
  | 1 => ("FerryDecks$Bodies", "written", "LFerryDecks$Trace;", true)
  | _ => ("FerryDecks$Bodies", "failure", "I", false)
def tyX0 : Nat → FieldType := fun k => match k with
  | 0 => .array .int
  | 1 => .object "FerryDecks$Trace"
  | _ => .int
abbrev wsX00 : List Cond := u_ws RX0 TX0 3
theorem nmX0 : ∀ a, a < 3 → ∀ b, b < 3 → a ≠ b → (TX0 a).2.1 ≠ (TX0 b).2.1 := by decide +kernel
theorem tyX0_ok : ∀ k, k < 3 → parseFieldDescriptor (TX0 k).2.2.1 = some (tyX0 k) := by decide +kernel
abbrev cX0_init : ByteArray := prog_2_method_1_code
def yX0_init : MethodName := ⟨RX0, "<init>", "()V"⟩
abbrev cX0_begin : ByteArray := prog_2_method_2_code
def yX0_begin : MethodName := ⟨RX0, "begin", "()V"⟩
abbrev cX0_failed : ByteArray := prog_2_method_3_code
def yX0_failed : MethodName := ⟨RX0, "failed", "()Z"⟩
abbrev cX0_answer : ByteArray := prog_2_method_4_code
def yX0_answer : MethodName := ⟨RX0, "answer", "(LFerryDecks$Vehicle;II)I"⟩
abbrev cX0_start : ByteArray := prog_2_method_5_code
def yX0_start : MethodName := ⟨RX0, "start", "(LFerryDecks$Vehicle;IIII)I"⟩
abbrev cX0_askAbove : ByteArray := prog_2_method_6_code
def yX0_askAbove : MethodName := ⟨RX0, "askAbove", "(LFerryDecks$Vehicle;IIII)I"⟩
abbrev cX0_askVehicle : ByteArray := prog_2_method_7_code
def yX0_askVehicle : MethodName := ⟨RX0, "askVehicle", "(LFerryDecks$Vehicle;III)I"⟩
abbrev cX0_fail : ByteArray := prog_2_method_8_code
def yX0_fail : MethodName := ⟨RX0, "fail", "(I)I"⟩
abbrev cX0_takes : ByteArray := prog_2_method_9_code
def yX0_takes : MethodName := ⟨RX0, "takes", "(I)Z"⟩
abbrev cX0_lengthBody : ByteArray := prog_2_method_10_code
def yX0_lengthBody : MethodName := ⟨RX0, "lengthBody", "(LFerryDecks$Vehicle;II)I"⟩
abbrev cX0_feeBody : ByteArray := prog_2_method_11_code
def yX0_feeBody : MethodName := ⟨RX0, "feeBody", "(LFerryDecks$Vehicle;III)I"⟩
abbrev cX0_riskBody : ByteArray := prog_2_method_12_code
def yX0_riskBody : MethodName := ⟨RX0, "riskBody", "(LFerryDecks$Vehicle;III)I"⟩
abbrev cX0_lashBody : ByteArray := prog_2_method_13_code
def yX0_lashBody : MethodName := ⟨RX0, "lashBody", "(LFerryDecks$Vehicle;III)I"⟩
abbrev cX0_lashMixed : ByteArray := prog_2_method_14_code
def yX0_lashMixed : MethodName := ⟨RX0, "lashMixed", "(LFerryDecks$Vehicle;II)I"⟩
abbrev cX0_markBody : ByteArray := prog_2_method_15_code
def yX0_markBody : MethodName := ⟨RX0, "markBody", "(LFerryDecks$Vehicle;II)I"⟩
abbrev cX0_pullBody : ByteArray := prog_2_method_16_code
def yX0_pullBody : MethodName := ⟨RX0, "pullBody", "(LFerryDecks$Vehicle;III)I"⟩
abbrev cX0_hookBody : ByteArray := prog_2_method_17_code
def yX0_hookBody : MethodName := ⟨RX0, "hookBody", "(LFerryDecks$Vehicle;II)I"⟩
def RX1 : String := "FerryDecks$Deck"
def TX1 : u_T := fun k => match k with
  | 0 => ("FerryDecks$Deck", "metres", "I", false)
  | 1 => ("FerryDecks$Deck", "taken", "I", false)
  | _ => ("FerryDecks$Deck", "vehiclesOn", "I", false)
def tyX1 : Nat → FieldType := fun k => match k with
  | 0 => .int
  | 1 => .int
  | _ => .int
abbrev wsX10 : List Cond := u_ws RX1 TX1 3
theorem nmX1 : ∀ a, a < 3 → ∀ b, b < 3 → a ≠ b → (TX1 a).2.1 ≠ (TX1 b).2.1 := by decide +kernel
theorem tyX1_ok : ∀ k, k < 3 → parseFieldDescriptor (TX1 k).2.2.1 = some (tyX1 k) := by decide +kernel
abbrev cX1_init : ByteArray := prog_3_method_1_code
def yX1_init : MethodName := ⟨RX1, "<init>", "()V"⟩
abbrev cX1_left : ByteArray := prog_3_method_2_code
def yX1_left : MethodName := ⟨RX1, "left", "()I"⟩
abbrev cX1_receive : ByteArray := prog_3_method_3_code
def yX1_receive : MethodName := ⟨RX1, "receive", "(I)V"⟩
abbrev cX1_release : ByteArray := prog_3_method_4_code
def yX1_release : MethodName := ⟨RX1, "release", "(I)V"⟩
def RX2 : String := "FerryDecks$Trace"
def TX2 : u_T := fun k => match k with
  | 0 => ("FerryDecks$Trace", "entries", "[I", true)
  | _ => ("FerryDecks$Trace", "size", "I", false)
def tyX2 : Nat → FieldType := fun k => match k with
  | 0 => .array .int
  | _ => .int
abbrev wsX20 : List Cond := u_ws RX2 TX2 2
theorem nmX2 : ∀ a, a < 2 → ∀ b, b < 2 → a ≠ b → (TX2 a).2.1 ≠ (TX2 b).2.1 := by decide +kernel
theorem tyX2_ok : ∀ k, k < 2 → parseFieldDescriptor (TX2 k).2.2.1 = some (tyX2 k) := by decide +kernel
abbrev cX2_init : ByteArray := prog_4_method_1_code
def yX2_init : MethodName := ⟨RX2, "<init>", "()V"⟩
abbrev cX2_has : ByteArray := prog_4_method_2_code
def yX2_has : MethodName := ⟨RX2, "has", "(I)Z"⟩
abbrev cX2_write : ByteArray := prog_4_method_3_code
def yX2_write : MethodName := ⟨RX2, "write", "(I)V"⟩
def RX3 : String := "FerryDecks$Vehicle"
def TX3 : u_T := fun k => match k with
  | 0 => ("FerryDecks$Vehicle", "kind", "I", true)
  | 1 => ("FerryDecks$Vehicle", "size", "I", true)
  | 2 => ("FerryDecks$Vehicle", "load", "I", true)
  | 3 => ("FerryDecks$Vehicle", "chains", "I", false)
  | 4 => ("FerryDecks$Vehicle", "deckNumber", "I", false)
  | _ => ("FerryDecks$Vehicle", "metres", "I", false)
def tyX3 : Nat → FieldType := fun k => match k with
  | 0 => .int
  | 1 => .int
  | 2 => .int
  | 3 => .int
  | 4 => .int
  | _ => .int
abbrev wsX30 : List Cond := u_ws RX3 TX3 6
theorem nmX3 : ∀ a, a < 6 → ∀ b, b < 6 → a ≠ b → (TX3 a).2.1 ≠ (TX3 b).2.1 := by decide +kernel
theorem tyX3_ok : ∀ k, k < 6 → parseFieldDescriptor (TX3 k).2.2.1 = some (tyX3 k) := by decide +kernel
abbrev cX3_init : ByteArray := prog_5_method_1_code
def yX3_init : MethodName := ⟨RX3, "<init>", "(III)V"⟩
abbrev cX3_goAshore : ByteArray := prog_5_method_2_code
def yX3_goAshore : MethodName := ⟨RX3, "goAshore", "()V"⟩
def RX4 : String := "FerryDecks"
def TX4 : u_T := fun k => match k with
  | 0 => ("FerryDecks", "vehicles", "[LFerryDecks$Vehicle;", true)
  | 1 => ("FerryDecks", "vehicleCount", "I", false)
  | 2 => ("FerryDecks", "decks", "[LFerryDecks$Deck;", true)
  | 3 => ("FerryDecks", "bodies", "LFerryDecks$Bodies;", true)
  | 4 => ("FerryDecks", "acts", "I", false)
  | 5 => ("FerryDecks", "failedActs", "I", false)
  | 6 => ("FerryDecks", "latestRisk", "I", false)
  | 7 => ("FerryDecks", "latestPull", "I", false)
  | _ => ("FerryDecks", "theTill", "J", false)
def tyX4 : Nat → FieldType := fun k => match k with
  | 0 => .array (.object "FerryDecks$Vehicle")
  | 1 => .int
  | 2 => .array (.object "FerryDecks$Deck")
  | 3 => .object "FerryDecks$Bodies"
  | 4 => .int
  | 5 => .int
  | 6 => .int
  | 7 => .int
  | _ => .long
abbrev wsX40 : List Cond := u_ws RX4 TX4 9
theorem nmX4 : ∀ a, a < 9 → ∀ b, b < 9 → a ≠ b → (TX4 a).2.1 ≠ (TX4 b).2.1 := by decide +kernel
theorem tyX4_ok : ∀ k, k < 9 → parseFieldDescriptor (TX4 k).2.2.1 = some (tyX4 k) := by decide +kernel
abbrev cX4_init : ByteArray := prog_1_method_1_code
def yX4_init : MethodName := ⟨RX4, "<init>", "()V"⟩
abbrev cX4_term : ByteArray := prog_1_method_2_code
def yX4_term : MethodName := ⟨RX4, "term", "(II)I"⟩
abbrev cX4_deck : ByteArray := prog_1_method_3_code
def yX4_deck : MethodName := ⟨RX4, "deck", "(II)I"⟩
abbrev cX4_vehicle : ByteArray := prog_1_method_4_code
def yX4_vehicle : MethodName := ⟨RX4, "vehicle", "(III)I"⟩
abbrev cX4_ask : ByteArray := prog_1_method_5_code
def yX4_ask : MethodName := ⟨RX4, "ask", "(III)J"⟩
abbrev cX4_trace : ByteArray := prog_1_method_6_code
def yX4_trace : MethodName := ⟨RX4, "trace", "(I)I"⟩
abbrev cX4_board : ByteArray := prog_1_method_7_code
def yX4_board : MethodName := ⟨RX4, "board", "(IIII)I"⟩
abbrev cX4_leave : ByteArray := prog_1_method_8_code
def yX4_leave : MethodName := ⟨RX4, "leave", "(I)I"⟩
abbrev cX4_risk : ByteArray := prog_1_method_9_code
def yX4_risk : MethodName := ⟨RX4, "risk", "()I"⟩
abbrev cX4_pull : ByteArray := prog_1_method_10_code
def yX4_pull : MethodName := ⟨RX4, "pull", "(II)I"⟩
abbrev cX4_pulled : ByteArray := prog_1_method_11_code
def yX4_pulled : MethodName := ⟨RX4, "pulled", "()I"⟩
abbrev cX4_told : ByteArray := prog_1_method_12_code
def yX4_told : MethodName := ⟨RX4, "told", "(II)J"⟩
abbrev cX4_on : ByteArray := prog_1_method_13_code
def yX4_on : MethodName := ⟨RX4, "on", "(II)I"⟩
abbrev cX4_till : ByteArray := prog_1_method_14_code
def yX4_till : MethodName := ⟨RX4, "till", "()J"⟩
abbrev cX4_count : ByteArray := prog_1_method_15_code
def yX4_count : MethodName := ⟨RX4, "count", "(I)I"⟩
abbrev cX4_within : ByteArray := prog_1_method_16_code
def yX4_within : MethodName := ⟨RX4, "within", "(III)Z"⟩
abbrev cX4_ownerOf : ByteArray := prog_1_method_17_code
def yX4_ownerOf : MethodName := ⟨RX4, "ownerOf", "(II)I"⟩
abbrev cX4_vehicleAt : ByteArray := prog_1_method_18_code
def yX4_vehicleAt : MethodName := ⟨RX4, "vehicleAt", "(I)LFerryDecks$Vehicle;"⟩
abbrev cX4_deckAt : ByteArray := prog_1_method_19_code
def yX4_deckAt : MethodName := ⟨RX4, "deckAt", "(I)LFerryDecks$Deck;"⟩
abbrev cX4_beginAct : ByteArray := prog_1_method_20_code
def yX4_beginAct : MethodName := ⟨RX4, "beginAct", "()V"⟩
abbrev cX4_endByFailure : ByteArray := prog_1_method_21_code
def yX4_endByFailure : MethodName := ⟨RX4, "endByFailure", "()I"⟩
def RX5 : String := "FerryDecksModel"
def TX5 : u_T := fun k => match k with
  | 0 => ("FerryDecksModel", "terms", "[I", true)
  | 1 => ("FerryDecksModel", "vehicles", "I", false)
  | 2 => ("FerryDecksModel", "kinds", "[I", true)
  | 3 => ("FerryDecksModel", "sizes", "[I", true)
  | 4 => ("FerryDecksModel", "loads", "[I", true)
  | 5 => ("FerryDecksModel", "chains", "[I", true)
  | 6 => ("FerryDecksModel", "decks", "[I", true)
  | 7 => ("FerryDecksModel", "taken", "[I", true)
  | 8 => ("FerryDecksModel", "metres", "[I", true)
  | 9 => ("FerryDecksModel", "till", "J", false)
  | 10 => ("FerryDecksModel", "risk", "I", false)
  | 11 => ("FerryDecksModel", "pulled", "I", false)
  | 12 => ("FerryDecksModel", "trace", "[I", true)
  | 13 => ("FerryDecksModel", "traced", "I", false)
  | 14 => ("FerryDecksModel", "acts", "I", false)
  | 15 => ("FerryDecksModel", "failed", "I", false)
  | _ => ("FerryDecksModel", "failure", "I", false)
def tyX5 : Nat → FieldType := fun k => match k with
  | 0 => .array .int
  | 1 => .int
  | 2 => .array .int
  | 3 => .array .int
  | 4 => .array .int
  | 5 => .array .int
  | 6 => .array .int
  | 7 => .array .int
  | 8 => .array .int
  | 9 => .long
  | 10 => .int
  | 11 => .int
  | 12 => .array .int
  | 13 => .int
  | 14 => .int
  | 15 => .int
  | _ => .int
abbrev wsX50 : List Cond := u_ws RX5 TX5 17
theorem nmX5 : ∀ a, a < 17 → ∀ b, b < 17 → a ≠ b → (TX5 a).2.1 ≠ (TX5 b).2.1 := by decide +kernel
theorem tyX5_ok : ∀ k, k < 17 → parseFieldDescriptor (TX5 k).2.2.1 = some (tyX5 k) := by decide +kernel
abbrev cX5_init : ByteArray := prog_7_method_1_code
def yX5_init : MethodName := ⟨RX5, "<init>", "()V"⟩
abbrev cX5_in : ByteArray := prog_7_method_3_code
def yX5_in : MethodName := ⟨RX5, "in", "(JJJ)Z"⟩
abbrev cX5_isVehicle : ByteArray := prog_7_method_4_code
def yX5_isVehicle : MethodName := ⟨RX5, "isVehicle", "(I)Z"⟩
abbrev cX5_isDeck : ByteArray := prog_7_method_5_code
def yX5_isDeck : MethodName := ⟨RX5, "isDeck", "(I)Z"⟩
abbrev cX5_term : ByteArray := prog_7_method_6_code
def yX5_term : MethodName := ⟨RX5, "term", "(II)I"⟩
abbrev cX5_takenOn : ByteArray := prog_7_method_7_code
def yX5_takenOn : MethodName := ⟨RX5, "takenOn", "(I)I"⟩
abbrev cX5_deck : ByteArray := prog_7_method_8_code
def yX5_deck : MethodName := ⟨RX5, "deck", "(II)I"⟩
abbrev cX5_vehicle : ByteArray := prog_7_method_9_code
def yX5_vehicle : MethodName := ⟨RX5, "vehicle", "(III)I"⟩
abbrev cX5_act : ByteArray := prog_7_method_10_code
def yX5_act : MethodName := ⟨RX5, "act", "()V"⟩
abbrev cX5_began : ByteArray := prog_7_method_11_code
def yX5_began : MethodName := ⟨RX5, "began", "(II)V"⟩
abbrev cX5_isCar : ByteArray := prog_7_method_12_code
def yX5_isCar : MethodName := ⟨RX5, "isCar", "(I)Z"⟩
abbrev cX5_length : ByteArray := prog_7_method_13_code
def yX5_length : MethodName := ⟨RX5, "length", "(I)I"⟩
abbrev cX5_plainFee : ByteArray := prog_7_method_14_code
def yX5_plainFee : MethodName := ⟨RX5, "plainFee", "(I)I"⟩
abbrev cX5_carFee : ByteArray := prog_7_method_15_code
def yX5_carFee : MethodName := ⟨RX5, "carFee", "(I)I"⟩
abbrev cX5_camperFee : ByteArray := prog_7_method_16_code
def yX5_camperFee : MethodName := ⟨RX5, "camperFee", "(II)I"⟩
abbrev cX5_tankerFee : ByteArray := prog_7_method_17_code
def yX5_tankerFee : MethodName := ⟨RX5, "tankerFee", "(I)I"⟩
abbrev cX5_fee : ByteArray := prog_7_method_18_code
def yX5_fee : MethodName := ⟨RX5, "fee", "(II)I"⟩
abbrev cX5_fails : ByteArray := prog_7_method_19_code
def yX5_fails : MethodName := ⟨RX5, "fails", "(I)I"⟩
abbrev cX5_plainRisk : ByteArray := prog_7_method_20_code
def yX5_plainRisk : MethodName := ⟨RX5, "plainRisk", "(I)I"⟩
abbrev cX5_truckRisk : ByteArray := prog_7_method_21_code
def yX5_truckRisk : MethodName := ⟨RX5, "truckRisk", "(II)I"⟩
abbrev cX5_gasRisk : ByteArray := prog_7_method_22_code
def yX5_gasRisk : MethodName := ⟨RX5, "gasRisk", "(II)I"⟩
abbrev cX5_taken : ByteArray := prog_7_method_23_code
def yX5_taken : MethodName := ⟨RX5, "taken", "(III)I"⟩
abbrev cX5_riskOf : ByteArray := prog_7_method_24_code
def yX5_riskOf : MethodName := ⟨RX5, "riskOf", "(II)I"⟩
abbrev cX5_plainLash : ByteArray := prog_7_method_25_code
def yX5_plainLash : MethodName := ⟨RX5, "plainLash", "(II)I"⟩
abbrev cX5_vanLash : ByteArray := prog_7_method_26_code
def yX5_vanLash : MethodName := ⟨RX5, "vanLash", "(II)I"⟩
abbrev cX5_tankerLash : ByteArray := prog_7_method_27_code
def yX5_tankerLash : MethodName := ⟨RX5, "tankerLash", "(II)I"⟩
abbrev cX5_gasLash : ByteArray := prog_7_method_28_code
def yX5_gasLash : MethodName := ⟨RX5, "gasLash", "(II)I"⟩
abbrev cX5_lash : ByteArray := prog_7_method_29_code
def yX5_lash : MethodName := ⟨RX5, "lash", "(II)I"⟩
abbrev cX5_mark : ByteArray := prog_7_method_30_code
def yX5_mark : MethodName := ⟨RX5, "mark", "(I)I"⟩
abbrev cX5_isHooked : ByteArray := prog_7_method_31_code
def yX5_isHooked : MethodName := ⟨RX5, "isHooked", "(I)Z"⟩
abbrev cX5_hook : ByteArray := prog_7_method_32_code
def yX5_hook : MethodName := ⟨RX5, "hook", "(I)I"⟩
abbrev cX5_pulls : ByteArray := prog_7_method_33_code
def yX5_pulls : MethodName := ⟨RX5, "pulls", "(II)I"⟩
abbrev cX5_asked : ByteArray := prog_7_method_34_code
def yX5_asked : MethodName := ⟨RX5, "asked", "(III)I"⟩
abbrev cX5_ask : ByteArray := prog_7_method_35_code
def yX5_ask : MethodName := ⟨RX5, "ask", "(III)J"⟩
abbrev cX5_trace : ByteArray := prog_7_method_36_code
def yX5_trace : MethodName := ⟨RX5, "trace", "(I)I"⟩
abbrev cX5_board : ByteArray := prog_7_method_37_code
def yX5_board : MethodName := ⟨RX5, "board", "(IIII)I"⟩
abbrev cX5_leave : ByteArray := prog_7_method_38_code
def yX5_leave : MethodName := ⟨RX5, "leave", "(I)I"⟩
abbrev cX5_risk : ByteArray := prog_7_method_39_code
def yX5_risk : MethodName := ⟨RX5, "risk", "()I"⟩
abbrev cX5_pull : ByteArray := prog_7_method_40_code
def yX5_pull : MethodName := ⟨RX5, "pull", "(II)I"⟩
abbrev cX5_pulled : ByteArray := prog_7_method_41_code
def yX5_pulled : MethodName := ⟨RX5, "pulled", "()I"⟩
abbrev cX5_told : ByteArray := prog_7_method_42_code
def yX5_told : MethodName := ⟨RX5, "told", "(II)J"⟩
abbrev cX5_on : ByteArray := prog_7_method_43_code
def yX5_on : MethodName := ⟨RX5, "on", "(II)I"⟩
abbrev cX5_till : ByteArray := prog_7_method_44_code
def yX5_till : MethodName := ⟨RX5, "till", "()J"⟩
abbrev cX5_count : ByteArray := prog_7_method_45_code
def yX5_count : MethodName := ⟨RX5, "count", "(I)I"⟩
def RJ9 : String := "java/lang/Math"
def TJ9 : u_T := fun k => match k with
  | _ => ("", "", "", false)
def tyJ9 : Nat → FieldType := fun k => match k with
  | _ => .int
abbrev wsJ90 : List Cond := u_ws RJ9 TJ9 0
theorem nmJ9 : ∀ a, a < 0 → ∀ b, b < 0 → a ≠ b → (TJ9 a).2.1 ≠ (TJ9 b).2.1 := by decide +kernel
theorem tyJ9_ok : ∀ k, k < 0 → parseFieldDescriptor (TJ9 k).2.2.1 = some (tyJ9 k) := by decide +kernel
abbrev cJ9_max_7cf53 : ByteArray := prog_8_method_65_code
def yJ9_max_7cf53 : MethodName := ⟨RJ9, "max", "(II)I"⟩
def RL : String := "FerryDecksLaw"
abbrev cL_law : ByteArray := code
def yL_law : MethodName := ⟨RL, "law", "([I)Z"⟩
def wsX2_init : List Cond := .code yX2_init cX2_init 1 none :: ([.methodLink RX2 3 objectInit, .instanceMethod objectInit, .code objectInit ⟨#[0xb1]⟩ 1 none, .arrayClass .int, .fieldLink RX2 9 "FerryDecks$Trace" "entries" "[I"] ++ wsX20)
def wsX0_init : List Cond := .code yX0_init cX0_init 1 none :: ([.methodLink RX0 3 objectInit, .instanceMethod objectInit, .code objectInit ⟨#[0xb1]⟩ 1 none, .arrayClass .int, .fieldLink RX0 9 "FerryDecks$Bodies" "terms" "[I", .classLink RX0 15 RX2, .instantiable RX2 2, .initialized RX2, .fieldLink RX0 18 "FerryDecks$Bodies" "written" "LFerryDecks$Trace;", .instanceMethod yX2_init, .code yX2_init cX2_init 1 none, .methodLink RX2 3 objectInit, .fieldLink RX2 9 "FerryDecks$Trace" "entries" "[I"] ++ wsX00 ++ wsX20)
def wsX0_begin : List Cond := .code yX0_begin cX0_begin 1 none :: ([.fieldLink RX0 18 "FerryDecks$Bodies" "written" "LFerryDecks$Trace;", .fieldLink RX0 22 "FerryDecks$Trace" "size" "I", .fieldLink RX0 26 "FerryDecks$Bodies" "failure" "I"] ++ wsX00 ++ wsX20)
def wsX0_failed : List Cond := .code yX0_failed cX0_failed 1 (some .boolean) :: ([.fieldLink RX0 26 "FerryDecks$Bodies" "failure" "I"] ++ wsX00)
def wsX4_within : List Cond := .code yX4_within cX4_within 3 (some .boolean) :: ([])
def wsX0_fail : List Cond := .code yX0_fail cX0_fail 2 (some .int) :: ([.fieldLink RX0 26 "FerryDecks$Bodies" "failure" "I"] ++ wsX00)
def wsX0_takes : List Cond := .code yX0_takes cX0_takes 2 (some .boolean) :: ([.fieldLink RX0 26 "FerryDecks$Bodies" "failure" "I"] ++ wsX00)
def wsX4_ownerOf : List Cond := .code yX4_ownerOf cX4_ownerOf 2 (some .int) :: ([.fieldLink RX4 146 "FerryDecks" "OWNERS" "[I", .methodLink RX4 29 yX4_within, .static yX4_within, .initialized RX4, .code yX4_within cX4_within 3 (some .boolean)])
def wsX2_write : List Cond := .code yX2_write cX2_write 2 none :: ([.fieldLink RX2 15 "FerryDecks$Trace" "size" "I", .fieldLink RX2 9 "FerryDecks$Trace" "entries" "[I"] ++ wsX20)
def wsX0_askAbove_r1 : List Cond := [Cond.static yX4_within, Cond.initialized RX4, Cond.code yX4_within cX4_within 3 (some .boolean), Cond.methodLink RX0 34 yX0_start, Cond.instanceMethod yX0_start, Cond.selects RX0 yX0_start yX0_start, Cond.initialized RX0, Cond.code yX0_askVehicle cX0_askVehicle 5 (some .int), Cond.fieldLink RX0 29 "FerryDecks$Vehicle" "kind" "I", Cond.code yX0_feeBody cX0_feeBody 6 (some .int), Cond.fieldLink RX0 9 "FerryDecks$Bodies" "terms" "[I", Cond.methodLink RX0 84 Lib.Math.max.name, Cond.static Lib.Math.max.name, Cond.initialized "java/lang/Math", Cond.code Lib.Math.max.name Lib.Math.max.code 2 (some .int), Cond.methodLink RX0 81 yX0_askAbove, Cond.instanceMethod yX0_askAbove, Cond.selects RX0 yX0_askAbove yX0_askAbove, Cond.methodLink RX0 89 yX0_askVehicle, Cond.instanceMethod yX0_askVehicle, Cond.selects RX0 yX0_askVehicle yX0_askVehicle, Cond.code yX0_hookBody cX0_hookBody 4 (some .int), Cond.fieldLink RX0 96 "FerryDecks$Vehicle" "load" "I", Cond.code yX0_lashBody cX0_lashBody 5 (some .int)]
def wsX0_askAbove_r2 : List Cond := [Cond.fieldLink RX0 103 "FerryDecks$Vehicle" "chains" "I", Cond.methodLink RX0 92 yX0_fail, Cond.instanceMethod yX0_fail, Cond.selects RX0 yX0_fail yX0_fail, Cond.code yX0_fail cX0_fail 2 (some .int), Cond.fieldLink RX0 26 "FerryDecks$Bodies" "failure" "I", Cond.methodLink RX0 106 yX0_lashMixed, Cond.instanceMethod yX0_lashMixed, Cond.selects RX0 yX0_lashMixed yX0_lashMixed, Cond.code yX0_lashMixed cX0_lashMixed 5 (some .int), Cond.methodLink RX0 99 yX0_takes, Cond.instanceMethod yX0_takes, Cond.selects RX0 yX0_takes yX0_takes, Cond.code yX0_takes cX0_takes 2 (some .boolean), Cond.code yX0_lengthBody cX0_lengthBody 5 (some .int), Cond.fieldLink RX0 80 "FerryDecks$Vehicle" "size" "I", Cond.code yX0_markBody cX0_markBody 5 (some .int), Cond.code yX0_pullBody cX0_pullBody 6 (some .int), Cond.code yX0_riskBody cX0_riskBody 6 (some .int), Cond.methodLink RX0 42 yX0_failed, Cond.instanceMethod yX0_failed, Cond.selects RX0 yX0_failed yX0_failed, Cond.code yX0_failed cX0_failed 1 (some .boolean), Cond.code yX0_start cX0_start 7 (some .int)]
def wsX0_askAbove_r3 : List Cond := [Cond.fieldLink RX0 18 "FerryDecks$Bodies" "written" "LFerryDecks$Trace;", Cond.static yX4_ownerOf, Cond.code yX4_ownerOf cX4_ownerOf 2 (some .int), Cond.fieldLink RX4 146 "FerryDecks" "OWNERS" "[I", Cond.methodLink RX4 29 yX4_within, Cond.methodLink RX0 46 yX2_write, Cond.instanceMethod yX2_write, Cond.selects RX2 yX2_write yX2_write, Cond.initialized RX2, Cond.code yX2_write cX2_write 2 none, Cond.fieldLink RX2 15 "FerryDecks$Trace" "size" "I", Cond.fieldLink RX2 9 "FerryDecks$Trace" "entries" "[I", Cond.methodLink RX0 50 yX0_lengthBody, Cond.instanceMethod yX0_lengthBody, Cond.selects RX0 yX0_lengthBody yX0_lengthBody, Cond.methodLink RX0 54 yX0_feeBody, Cond.instanceMethod yX0_feeBody, Cond.selects RX0 yX0_feeBody yX0_feeBody, Cond.methodLink RX0 58 yX0_riskBody, Cond.instanceMethod yX0_riskBody, Cond.selects RX0 yX0_riskBody yX0_riskBody, Cond.methodLink RX0 61 yX0_lashBody, Cond.instanceMethod yX0_lashBody, Cond.selects RX0 yX0_lashBody yX0_lashBody]
def wsX0_askAbove_r4 : List Cond := [Cond.methodLink RX0 64 yX0_markBody, Cond.instanceMethod yX0_markBody, Cond.selects RX0 yX0_markBody yX0_markBody, Cond.methodLink RX0 67 yX0_pullBody, Cond.instanceMethod yX0_pullBody, Cond.selects RX0 yX0_pullBody yX0_pullBody, Cond.methodLink RX0 70 yX0_hookBody, Cond.instanceMethod yX0_hookBody, Cond.selects RX0 yX0_hookBody yX0_hookBody]
def wsX0_askAbove : List Cond := .code yX0_askAbove cX0_askAbove 6 (some .int) :: ((wsX0_askAbove_r1 ++ (wsX0_askAbove_r2 ++ (wsX0_askAbove_r3 ++ wsX0_askAbove_r4))) ++ wsX30 ++ wsX00 ++ wsX20)
def wsX0_askVehicle_r1 : List Cond := [Cond.fieldLink RX0 29 "FerryDecks$Vehicle" "kind" "I", Cond.methodLink RX0 34 yX0_start, Cond.instanceMethod yX0_start, Cond.selects RX0 yX0_start yX0_start, Cond.initialized RX0, Cond.code yX0_askAbove cX0_askAbove 6 (some .int), Cond.static yX4_within, Cond.initialized RX4, Cond.code yX4_within cX4_within 3 (some .boolean), Cond.code yX0_feeBody cX0_feeBody 6 (some .int), Cond.fieldLink RX0 9 "FerryDecks$Bodies" "terms" "[I", Cond.methodLink RX0 84 Lib.Math.max.name, Cond.static Lib.Math.max.name, Cond.initialized "java/lang/Math", Cond.code Lib.Math.max.name Lib.Math.max.code 2 (some .int), Cond.methodLink RX0 81 yX0_askAbove, Cond.instanceMethod yX0_askAbove, Cond.selects RX0 yX0_askAbove yX0_askAbove, Cond.methodLink RX0 89 yX0_askVehicle, Cond.instanceMethod yX0_askVehicle, Cond.selects RX0 yX0_askVehicle yX0_askVehicle, Cond.code yX0_hookBody cX0_hookBody 4 (some .int), Cond.fieldLink RX0 96 "FerryDecks$Vehicle" "load" "I", Cond.code yX0_lashBody cX0_lashBody 5 (some .int)]
def wsX0_askVehicle_r2 : List Cond := [Cond.fieldLink RX0 103 "FerryDecks$Vehicle" "chains" "I", Cond.methodLink RX0 92 yX0_fail, Cond.instanceMethod yX0_fail, Cond.selects RX0 yX0_fail yX0_fail, Cond.code yX0_fail cX0_fail 2 (some .int), Cond.fieldLink RX0 26 "FerryDecks$Bodies" "failure" "I", Cond.methodLink RX0 106 yX0_lashMixed, Cond.instanceMethod yX0_lashMixed, Cond.selects RX0 yX0_lashMixed yX0_lashMixed, Cond.code yX0_lashMixed cX0_lashMixed 5 (some .int), Cond.methodLink RX0 99 yX0_takes, Cond.instanceMethod yX0_takes, Cond.selects RX0 yX0_takes yX0_takes, Cond.code yX0_takes cX0_takes 2 (some .boolean), Cond.code yX0_lengthBody cX0_lengthBody 5 (some .int), Cond.fieldLink RX0 80 "FerryDecks$Vehicle" "size" "I", Cond.code yX0_markBody cX0_markBody 5 (some .int), Cond.code yX0_pullBody cX0_pullBody 6 (some .int), Cond.code yX0_riskBody cX0_riskBody 6 (some .int), Cond.methodLink RX0 42 yX0_failed, Cond.instanceMethod yX0_failed, Cond.selects RX0 yX0_failed yX0_failed, Cond.code yX0_failed cX0_failed 1 (some .boolean), Cond.code yX0_start cX0_start 7 (some .int)]
def wsX0_askVehicle_r3 : List Cond := [Cond.fieldLink RX0 18 "FerryDecks$Bodies" "written" "LFerryDecks$Trace;", Cond.static yX4_ownerOf, Cond.code yX4_ownerOf cX4_ownerOf 2 (some .int), Cond.fieldLink RX4 146 "FerryDecks" "OWNERS" "[I", Cond.methodLink RX4 29 yX4_within, Cond.methodLink RX0 46 yX2_write, Cond.instanceMethod yX2_write, Cond.selects RX2 yX2_write yX2_write, Cond.initialized RX2, Cond.code yX2_write cX2_write 2 none, Cond.fieldLink RX2 15 "FerryDecks$Trace" "size" "I", Cond.fieldLink RX2 9 "FerryDecks$Trace" "entries" "[I", Cond.methodLink RX0 50 yX0_lengthBody, Cond.instanceMethod yX0_lengthBody, Cond.selects RX0 yX0_lengthBody yX0_lengthBody, Cond.methodLink RX0 54 yX0_feeBody, Cond.instanceMethod yX0_feeBody, Cond.selects RX0 yX0_feeBody yX0_feeBody, Cond.methodLink RX0 58 yX0_riskBody, Cond.instanceMethod yX0_riskBody, Cond.selects RX0 yX0_riskBody yX0_riskBody, Cond.methodLink RX0 61 yX0_lashBody, Cond.instanceMethod yX0_lashBody, Cond.selects RX0 yX0_lashBody yX0_lashBody]
def wsX0_askVehicle_r4 : List Cond := [Cond.methodLink RX0 64 yX0_markBody, Cond.instanceMethod yX0_markBody, Cond.selects RX0 yX0_markBody yX0_markBody, Cond.methodLink RX0 67 yX0_pullBody, Cond.instanceMethod yX0_pullBody, Cond.selects RX0 yX0_pullBody yX0_pullBody, Cond.methodLink RX0 70 yX0_hookBody, Cond.instanceMethod yX0_hookBody, Cond.selects RX0 yX0_hookBody yX0_hookBody]
def wsX0_askVehicle : List Cond := .code yX0_askVehicle cX0_askVehicle 5 (some .int) :: ((wsX0_askVehicle_r1 ++ (wsX0_askVehicle_r2 ++ (wsX0_askVehicle_r3 ++ wsX0_askVehicle_r4))) ++ wsX30 ++ wsX00 ++ wsX20)
def wsX0_feeBody_r1 : List Cond := [Cond.fieldLink RX0 9 "FerryDecks$Bodies" "terms" "[I", Cond.methodLink RX0 84 Lib.Math.max.name, Cond.static Lib.Math.max.name, Cond.initialized "java/lang/Math", Cond.code Lib.Math.max.name Lib.Math.max.code 2 (some .int), Cond.methodLink RX0 81 yX0_askAbove, Cond.instanceMethod yX0_askAbove, Cond.selects RX0 yX0_askAbove yX0_askAbove, Cond.initialized RX0, Cond.methodLink RX0 89 yX0_askVehicle, Cond.instanceMethod yX0_askVehicle, Cond.selects RX0 yX0_askVehicle yX0_askVehicle, Cond.code yX0_askAbove cX0_askAbove 6 (some .int), Cond.static yX4_within, Cond.initialized RX4, Cond.code yX4_within cX4_within 3 (some .boolean), Cond.methodLink RX0 34 yX0_start, Cond.instanceMethod yX0_start, Cond.selects RX0 yX0_start yX0_start, Cond.code yX0_askVehicle cX0_askVehicle 5 (some .int), Cond.fieldLink RX0 29 "FerryDecks$Vehicle" "kind" "I", Cond.code yX0_hookBody cX0_hookBody 4 (some .int), Cond.fieldLink RX0 96 "FerryDecks$Vehicle" "load" "I", Cond.code yX0_lashBody cX0_lashBody 5 (some .int)]
def wsX0_feeBody_r2 : List Cond := [Cond.fieldLink RX0 103 "FerryDecks$Vehicle" "chains" "I", Cond.methodLink RX0 92 yX0_fail, Cond.instanceMethod yX0_fail, Cond.selects RX0 yX0_fail yX0_fail, Cond.code yX0_fail cX0_fail 2 (some .int), Cond.fieldLink RX0 26 "FerryDecks$Bodies" "failure" "I", Cond.methodLink RX0 106 yX0_lashMixed, Cond.instanceMethod yX0_lashMixed, Cond.selects RX0 yX0_lashMixed yX0_lashMixed, Cond.code yX0_lashMixed cX0_lashMixed 5 (some .int), Cond.methodLink RX0 99 yX0_takes, Cond.instanceMethod yX0_takes, Cond.selects RX0 yX0_takes yX0_takes, Cond.code yX0_takes cX0_takes 2 (some .boolean), Cond.code yX0_lengthBody cX0_lengthBody 5 (some .int), Cond.fieldLink RX0 80 "FerryDecks$Vehicle" "size" "I", Cond.code yX0_markBody cX0_markBody 5 (some .int), Cond.code yX0_pullBody cX0_pullBody 6 (some .int), Cond.code yX0_riskBody cX0_riskBody 6 (some .int), Cond.methodLink RX0 42 yX0_failed, Cond.instanceMethod yX0_failed, Cond.selects RX0 yX0_failed yX0_failed, Cond.code yX0_failed cX0_failed 1 (some .boolean), Cond.code yX0_start cX0_start 7 (some .int)]
def wsX0_feeBody_r3 : List Cond := [Cond.fieldLink RX0 18 "FerryDecks$Bodies" "written" "LFerryDecks$Trace;", Cond.static yX4_ownerOf, Cond.code yX4_ownerOf cX4_ownerOf 2 (some .int), Cond.fieldLink RX4 146 "FerryDecks" "OWNERS" "[I", Cond.methodLink RX4 29 yX4_within, Cond.methodLink RX0 46 yX2_write, Cond.instanceMethod yX2_write, Cond.selects RX2 yX2_write yX2_write, Cond.initialized RX2, Cond.code yX2_write cX2_write 2 none, Cond.fieldLink RX2 15 "FerryDecks$Trace" "size" "I", Cond.fieldLink RX2 9 "FerryDecks$Trace" "entries" "[I", Cond.methodLink RX0 50 yX0_lengthBody, Cond.instanceMethod yX0_lengthBody, Cond.selects RX0 yX0_lengthBody yX0_lengthBody, Cond.methodLink RX0 54 yX0_feeBody, Cond.instanceMethod yX0_feeBody, Cond.selects RX0 yX0_feeBody yX0_feeBody, Cond.methodLink RX0 58 yX0_riskBody, Cond.instanceMethod yX0_riskBody, Cond.selects RX0 yX0_riskBody yX0_riskBody, Cond.methodLink RX0 61 yX0_lashBody, Cond.instanceMethod yX0_lashBody, Cond.selects RX0 yX0_lashBody yX0_lashBody]
def wsX0_feeBody_r4 : List Cond := [Cond.methodLink RX0 64 yX0_markBody, Cond.instanceMethod yX0_markBody, Cond.selects RX0 yX0_markBody yX0_markBody, Cond.methodLink RX0 67 yX0_pullBody, Cond.instanceMethod yX0_pullBody, Cond.selects RX0 yX0_pullBody yX0_pullBody, Cond.methodLink RX0 70 yX0_hookBody, Cond.instanceMethod yX0_hookBody, Cond.selects RX0 yX0_hookBody yX0_hookBody]
def wsX0_feeBody : List Cond := .code yX0_feeBody cX0_feeBody 6 (some .int) :: ((wsX0_feeBody_r1 ++ (wsX0_feeBody_r2 ++ (wsX0_feeBody_r3 ++ wsX0_feeBody_r4))) ++ wsX30 ++ wsX00 ++ wsX20)
def wsX0_hookBody_r1 : List Cond := [Cond.fieldLink RX0 9 "FerryDecks$Bodies" "terms" "[I", Cond.fieldLink RX0 96 "FerryDecks$Vehicle" "load" "I", Cond.methodLink RX0 81 yX0_askAbove, Cond.instanceMethod yX0_askAbove, Cond.selects RX0 yX0_askAbove yX0_askAbove, Cond.initialized RX0, Cond.code yX0_askAbove cX0_askAbove 6 (some .int), Cond.static yX4_within, Cond.initialized RX4, Cond.code yX4_within cX4_within 3 (some .boolean), Cond.methodLink RX0 34 yX0_start, Cond.instanceMethod yX0_start, Cond.selects RX0 yX0_start yX0_start, Cond.code yX0_askVehicle cX0_askVehicle 5 (some .int), Cond.fieldLink RX0 29 "FerryDecks$Vehicle" "kind" "I", Cond.code yX0_feeBody cX0_feeBody 6 (some .int), Cond.methodLink RX0 84 Lib.Math.max.name, Cond.static Lib.Math.max.name, Cond.initialized "java/lang/Math", Cond.code Lib.Math.max.name Lib.Math.max.code 2 (some .int), Cond.methodLink RX0 89 yX0_askVehicle, Cond.instanceMethod yX0_askVehicle, Cond.selects RX0 yX0_askVehicle yX0_askVehicle, Cond.code yX0_lashBody cX0_lashBody 5 (some .int)]
def wsX0_hookBody_r2 : List Cond := [Cond.fieldLink RX0 103 "FerryDecks$Vehicle" "chains" "I", Cond.methodLink RX0 92 yX0_fail, Cond.instanceMethod yX0_fail, Cond.selects RX0 yX0_fail yX0_fail, Cond.code yX0_fail cX0_fail 2 (some .int), Cond.fieldLink RX0 26 "FerryDecks$Bodies" "failure" "I", Cond.methodLink RX0 106 yX0_lashMixed, Cond.instanceMethod yX0_lashMixed, Cond.selects RX0 yX0_lashMixed yX0_lashMixed, Cond.code yX0_lashMixed cX0_lashMixed 5 (some .int), Cond.methodLink RX0 99 yX0_takes, Cond.instanceMethod yX0_takes, Cond.selects RX0 yX0_takes yX0_takes, Cond.code yX0_takes cX0_takes 2 (some .boolean), Cond.code yX0_lengthBody cX0_lengthBody 5 (some .int), Cond.fieldLink RX0 80 "FerryDecks$Vehicle" "size" "I", Cond.code yX0_markBody cX0_markBody 5 (some .int), Cond.code yX0_pullBody cX0_pullBody 6 (some .int), Cond.code yX0_riskBody cX0_riskBody 6 (some .int), Cond.methodLink RX0 42 yX0_failed, Cond.instanceMethod yX0_failed, Cond.selects RX0 yX0_failed yX0_failed, Cond.code yX0_failed cX0_failed 1 (some .boolean), Cond.code yX0_start cX0_start 7 (some .int)]
def wsX0_hookBody_r3 : List Cond := [Cond.fieldLink RX0 18 "FerryDecks$Bodies" "written" "LFerryDecks$Trace;", Cond.static yX4_ownerOf, Cond.code yX4_ownerOf cX4_ownerOf 2 (some .int), Cond.fieldLink RX4 146 "FerryDecks" "OWNERS" "[I", Cond.methodLink RX4 29 yX4_within, Cond.methodLink RX0 46 yX2_write, Cond.instanceMethod yX2_write, Cond.selects RX2 yX2_write yX2_write, Cond.initialized RX2, Cond.code yX2_write cX2_write 2 none, Cond.fieldLink RX2 15 "FerryDecks$Trace" "size" "I", Cond.fieldLink RX2 9 "FerryDecks$Trace" "entries" "[I", Cond.methodLink RX0 50 yX0_lengthBody, Cond.instanceMethod yX0_lengthBody, Cond.selects RX0 yX0_lengthBody yX0_lengthBody, Cond.methodLink RX0 54 yX0_feeBody, Cond.instanceMethod yX0_feeBody, Cond.selects RX0 yX0_feeBody yX0_feeBody, Cond.methodLink RX0 58 yX0_riskBody, Cond.instanceMethod yX0_riskBody, Cond.selects RX0 yX0_riskBody yX0_riskBody, Cond.methodLink RX0 61 yX0_lashBody, Cond.instanceMethod yX0_lashBody, Cond.selects RX0 yX0_lashBody yX0_lashBody]
def wsX0_hookBody_r4 : List Cond := [Cond.methodLink RX0 64 yX0_markBody, Cond.instanceMethod yX0_markBody, Cond.selects RX0 yX0_markBody yX0_markBody, Cond.methodLink RX0 67 yX0_pullBody, Cond.instanceMethod yX0_pullBody, Cond.selects RX0 yX0_pullBody yX0_pullBody, Cond.methodLink RX0 70 yX0_hookBody, Cond.instanceMethod yX0_hookBody, Cond.selects RX0 yX0_hookBody yX0_hookBody]
def wsX0_hookBody : List Cond := .code yX0_hookBody cX0_hookBody 4 (some .int) :: ((wsX0_hookBody_r1 ++ (wsX0_hookBody_r2 ++ (wsX0_hookBody_r3 ++ wsX0_hookBody_r4))) ++ wsX30 ++ wsX00 ++ wsX20)
def wsX0_lashBody_r1 : List Cond := [Cond.fieldLink RX0 103 "FerryDecks$Vehicle" "chains" "I", Cond.fieldLink RX0 9 "FerryDecks$Bodies" "terms" "[I", Cond.methodLink RX0 81 yX0_askAbove, Cond.instanceMethod yX0_askAbove, Cond.selects RX0 yX0_askAbove yX0_askAbove, Cond.initialized RX0, Cond.methodLink RX0 92 yX0_fail, Cond.instanceMethod yX0_fail, Cond.selects RX0 yX0_fail yX0_fail, Cond.code yX0_fail cX0_fail 2 (some .int), Cond.fieldLink RX0 26 "FerryDecks$Bodies" "failure" "I", Cond.methodLink RX0 106 yX0_lashMixed, Cond.instanceMethod yX0_lashMixed, Cond.selects RX0 yX0_lashMixed yX0_lashMixed, Cond.code yX0_askAbove cX0_askAbove 6 (some .int), Cond.static yX4_within, Cond.initialized RX4, Cond.code yX4_within cX4_within 3 (some .boolean), Cond.methodLink RX0 34 yX0_start, Cond.instanceMethod yX0_start, Cond.selects RX0 yX0_start yX0_start, Cond.code yX0_askVehicle cX0_askVehicle 5 (some .int), Cond.fieldLink RX0 29 "FerryDecks$Vehicle" "kind" "I", Cond.code yX0_feeBody cX0_feeBody 6 (some .int)]
def wsX0_lashBody_r2 : List Cond := [Cond.methodLink RX0 84 Lib.Math.max.name, Cond.static Lib.Math.max.name, Cond.initialized "java/lang/Math", Cond.code Lib.Math.max.name Lib.Math.max.code 2 (some .int), Cond.methodLink RX0 89 yX0_askVehicle, Cond.instanceMethod yX0_askVehicle, Cond.selects RX0 yX0_askVehicle yX0_askVehicle, Cond.code yX0_hookBody cX0_hookBody 4 (some .int), Cond.fieldLink RX0 96 "FerryDecks$Vehicle" "load" "I", Cond.code yX0_lashMixed cX0_lashMixed 5 (some .int), Cond.methodLink RX0 99 yX0_takes, Cond.instanceMethod yX0_takes, Cond.selects RX0 yX0_takes yX0_takes, Cond.code yX0_takes cX0_takes 2 (some .boolean), Cond.code yX0_lengthBody cX0_lengthBody 5 (some .int), Cond.fieldLink RX0 80 "FerryDecks$Vehicle" "size" "I", Cond.code yX0_markBody cX0_markBody 5 (some .int), Cond.code yX0_pullBody cX0_pullBody 6 (some .int), Cond.code yX0_riskBody cX0_riskBody 6 (some .int), Cond.methodLink RX0 42 yX0_failed, Cond.instanceMethod yX0_failed, Cond.selects RX0 yX0_failed yX0_failed, Cond.code yX0_failed cX0_failed 1 (some .boolean), Cond.code yX0_start cX0_start 7 (some .int)]
def wsX0_lashBody_r3 : List Cond := [Cond.fieldLink RX0 18 "FerryDecks$Bodies" "written" "LFerryDecks$Trace;", Cond.static yX4_ownerOf, Cond.code yX4_ownerOf cX4_ownerOf 2 (some .int), Cond.fieldLink RX4 146 "FerryDecks" "OWNERS" "[I", Cond.methodLink RX4 29 yX4_within, Cond.methodLink RX0 46 yX2_write, Cond.instanceMethod yX2_write, Cond.selects RX2 yX2_write yX2_write, Cond.initialized RX2, Cond.code yX2_write cX2_write 2 none, Cond.fieldLink RX2 15 "FerryDecks$Trace" "size" "I", Cond.fieldLink RX2 9 "FerryDecks$Trace" "entries" "[I", Cond.methodLink RX0 50 yX0_lengthBody, Cond.instanceMethod yX0_lengthBody, Cond.selects RX0 yX0_lengthBody yX0_lengthBody, Cond.methodLink RX0 54 yX0_feeBody, Cond.instanceMethod yX0_feeBody, Cond.selects RX0 yX0_feeBody yX0_feeBody, Cond.methodLink RX0 58 yX0_riskBody, Cond.instanceMethod yX0_riskBody, Cond.selects RX0 yX0_riskBody yX0_riskBody, Cond.methodLink RX0 61 yX0_lashBody, Cond.instanceMethod yX0_lashBody, Cond.selects RX0 yX0_lashBody yX0_lashBody]
def wsX0_lashBody_r4 : List Cond := [Cond.methodLink RX0 64 yX0_markBody, Cond.instanceMethod yX0_markBody, Cond.selects RX0 yX0_markBody yX0_markBody, Cond.methodLink RX0 67 yX0_pullBody, Cond.instanceMethod yX0_pullBody, Cond.selects RX0 yX0_pullBody yX0_pullBody, Cond.methodLink RX0 70 yX0_hookBody, Cond.instanceMethod yX0_hookBody, Cond.selects RX0 yX0_hookBody yX0_hookBody]
def wsX0_lashBody : List Cond := .code yX0_lashBody cX0_lashBody 5 (some .int) :: ((wsX0_lashBody_r1 ++ (wsX0_lashBody_r2 ++ (wsX0_lashBody_r3 ++ wsX0_lashBody_r4))) ++ wsX30 ++ wsX00 ++ wsX20)
def wsX0_lashMixed_r1 : List Cond := [Cond.fieldLink RX0 103 "FerryDecks$Vehicle" "chains" "I", Cond.methodLink RX0 81 yX0_askAbove, Cond.instanceMethod yX0_askAbove, Cond.selects RX0 yX0_askAbove yX0_askAbove, Cond.initialized RX0, Cond.methodLink RX0 99 yX0_takes, Cond.instanceMethod yX0_takes, Cond.selects RX0 yX0_takes yX0_takes, Cond.code yX0_takes cX0_takes 2 (some .boolean), Cond.fieldLink RX0 26 "FerryDecks$Bodies" "failure" "I", Cond.code yX0_askAbove cX0_askAbove 6 (some .int), Cond.static yX4_within, Cond.initialized RX4, Cond.code yX4_within cX4_within 3 (some .boolean), Cond.methodLink RX0 34 yX0_start, Cond.instanceMethod yX0_start, Cond.selects RX0 yX0_start yX0_start, Cond.code yX0_askVehicle cX0_askVehicle 5 (some .int), Cond.fieldLink RX0 29 "FerryDecks$Vehicle" "kind" "I", Cond.code yX0_feeBody cX0_feeBody 6 (some .int), Cond.fieldLink RX0 9 "FerryDecks$Bodies" "terms" "[I", Cond.methodLink RX0 84 Lib.Math.max.name, Cond.static Lib.Math.max.name, Cond.initialized "java/lang/Math"]
def wsX0_lashMixed_r2 : List Cond := [Cond.code Lib.Math.max.name Lib.Math.max.code 2 (some .int), Cond.methodLink RX0 89 yX0_askVehicle, Cond.instanceMethod yX0_askVehicle, Cond.selects RX0 yX0_askVehicle yX0_askVehicle, Cond.code yX0_hookBody cX0_hookBody 4 (some .int), Cond.fieldLink RX0 96 "FerryDecks$Vehicle" "load" "I", Cond.code yX0_lashBody cX0_lashBody 5 (some .int), Cond.methodLink RX0 92 yX0_fail, Cond.instanceMethod yX0_fail, Cond.selects RX0 yX0_fail yX0_fail, Cond.code yX0_fail cX0_fail 2 (some .int), Cond.methodLink RX0 106 yX0_lashMixed, Cond.instanceMethod yX0_lashMixed, Cond.selects RX0 yX0_lashMixed yX0_lashMixed, Cond.code yX0_lengthBody cX0_lengthBody 5 (some .int), Cond.fieldLink RX0 80 "FerryDecks$Vehicle" "size" "I", Cond.code yX0_markBody cX0_markBody 5 (some .int), Cond.code yX0_pullBody cX0_pullBody 6 (some .int), Cond.code yX0_riskBody cX0_riskBody 6 (some .int), Cond.methodLink RX0 42 yX0_failed, Cond.instanceMethod yX0_failed, Cond.selects RX0 yX0_failed yX0_failed, Cond.code yX0_failed cX0_failed 1 (some .boolean), Cond.code yX0_start cX0_start 7 (some .int)]
def wsX0_lashMixed_r3 : List Cond := [Cond.fieldLink RX0 18 "FerryDecks$Bodies" "written" "LFerryDecks$Trace;", Cond.static yX4_ownerOf, Cond.code yX4_ownerOf cX4_ownerOf 2 (some .int), Cond.fieldLink RX4 146 "FerryDecks" "OWNERS" "[I", Cond.methodLink RX4 29 yX4_within, Cond.methodLink RX0 46 yX2_write, Cond.instanceMethod yX2_write, Cond.selects RX2 yX2_write yX2_write, Cond.initialized RX2, Cond.code yX2_write cX2_write 2 none, Cond.fieldLink RX2 15 "FerryDecks$Trace" "size" "I", Cond.fieldLink RX2 9 "FerryDecks$Trace" "entries" "[I", Cond.methodLink RX0 50 yX0_lengthBody, Cond.instanceMethod yX0_lengthBody, Cond.selects RX0 yX0_lengthBody yX0_lengthBody, Cond.methodLink RX0 54 yX0_feeBody, Cond.instanceMethod yX0_feeBody, Cond.selects RX0 yX0_feeBody yX0_feeBody, Cond.methodLink RX0 58 yX0_riskBody, Cond.instanceMethod yX0_riskBody, Cond.selects RX0 yX0_riskBody yX0_riskBody, Cond.methodLink RX0 61 yX0_lashBody, Cond.instanceMethod yX0_lashBody, Cond.selects RX0 yX0_lashBody yX0_lashBody]
def wsX0_lashMixed_r4 : List Cond := [Cond.methodLink RX0 64 yX0_markBody, Cond.instanceMethod yX0_markBody, Cond.selects RX0 yX0_markBody yX0_markBody, Cond.methodLink RX0 67 yX0_pullBody, Cond.instanceMethod yX0_pullBody, Cond.selects RX0 yX0_pullBody yX0_pullBody, Cond.methodLink RX0 70 yX0_hookBody, Cond.instanceMethod yX0_hookBody, Cond.selects RX0 yX0_hookBody yX0_hookBody]
def wsX0_lashMixed : List Cond := .code yX0_lashMixed cX0_lashMixed 5 (some .int) :: ((wsX0_lashMixed_r1 ++ (wsX0_lashMixed_r2 ++ (wsX0_lashMixed_r3 ++ wsX0_lashMixed_r4))) ++ wsX30 ++ wsX00 ++ wsX20)
def wsX0_lengthBody_r1 : List Cond := [Cond.fieldLink RX0 80 "FerryDecks$Vehicle" "size" "I", Cond.fieldLink RX0 9 "FerryDecks$Bodies" "terms" "[I", Cond.methodLink RX0 84 Lib.Math.max.name, Cond.static Lib.Math.max.name, Cond.initialized "java/lang/Math", Cond.code Lib.Math.max.name Lib.Math.max.code 2 (some .int), Cond.methodLink RX0 81 yX0_askAbove, Cond.instanceMethod yX0_askAbove, Cond.selects RX0 yX0_askAbove yX0_askAbove, Cond.initialized RX0, Cond.code yX0_askAbove cX0_askAbove 6 (some .int), Cond.static yX4_within, Cond.initialized RX4, Cond.code yX4_within cX4_within 3 (some .boolean), Cond.methodLink RX0 34 yX0_start, Cond.instanceMethod yX0_start, Cond.selects RX0 yX0_start yX0_start, Cond.code yX0_askVehicle cX0_askVehicle 5 (some .int), Cond.fieldLink RX0 29 "FerryDecks$Vehicle" "kind" "I", Cond.code yX0_feeBody cX0_feeBody 6 (some .int), Cond.methodLink RX0 89 yX0_askVehicle, Cond.instanceMethod yX0_askVehicle, Cond.selects RX0 yX0_askVehicle yX0_askVehicle, Cond.code yX0_hookBody cX0_hookBody 4 (some .int)]
def wsX0_lengthBody_r2 : List Cond := [Cond.fieldLink RX0 96 "FerryDecks$Vehicle" "load" "I", Cond.code yX0_lashBody cX0_lashBody 5 (some .int), Cond.fieldLink RX0 103 "FerryDecks$Vehicle" "chains" "I", Cond.methodLink RX0 92 yX0_fail, Cond.instanceMethod yX0_fail, Cond.selects RX0 yX0_fail yX0_fail, Cond.code yX0_fail cX0_fail 2 (some .int), Cond.fieldLink RX0 26 "FerryDecks$Bodies" "failure" "I", Cond.methodLink RX0 106 yX0_lashMixed, Cond.instanceMethod yX0_lashMixed, Cond.selects RX0 yX0_lashMixed yX0_lashMixed, Cond.code yX0_lashMixed cX0_lashMixed 5 (some .int), Cond.methodLink RX0 99 yX0_takes, Cond.instanceMethod yX0_takes, Cond.selects RX0 yX0_takes yX0_takes, Cond.code yX0_takes cX0_takes 2 (some .boolean), Cond.code yX0_markBody cX0_markBody 5 (some .int), Cond.code yX0_pullBody cX0_pullBody 6 (some .int), Cond.code yX0_riskBody cX0_riskBody 6 (some .int), Cond.methodLink RX0 42 yX0_failed, Cond.instanceMethod yX0_failed, Cond.selects RX0 yX0_failed yX0_failed, Cond.code yX0_failed cX0_failed 1 (some .boolean), Cond.code yX0_start cX0_start 7 (some .int)]
def wsX0_lengthBody_r3 : List Cond := [Cond.fieldLink RX0 18 "FerryDecks$Bodies" "written" "LFerryDecks$Trace;", Cond.static yX4_ownerOf, Cond.code yX4_ownerOf cX4_ownerOf 2 (some .int), Cond.fieldLink RX4 146 "FerryDecks" "OWNERS" "[I", Cond.methodLink RX4 29 yX4_within, Cond.methodLink RX0 46 yX2_write, Cond.instanceMethod yX2_write, Cond.selects RX2 yX2_write yX2_write, Cond.initialized RX2, Cond.code yX2_write cX2_write 2 none, Cond.fieldLink RX2 15 "FerryDecks$Trace" "size" "I", Cond.fieldLink RX2 9 "FerryDecks$Trace" "entries" "[I", Cond.methodLink RX0 50 yX0_lengthBody, Cond.instanceMethod yX0_lengthBody, Cond.selects RX0 yX0_lengthBody yX0_lengthBody, Cond.methodLink RX0 54 yX0_feeBody, Cond.instanceMethod yX0_feeBody, Cond.selects RX0 yX0_feeBody yX0_feeBody, Cond.methodLink RX0 58 yX0_riskBody, Cond.instanceMethod yX0_riskBody, Cond.selects RX0 yX0_riskBody yX0_riskBody, Cond.methodLink RX0 61 yX0_lashBody, Cond.instanceMethod yX0_lashBody, Cond.selects RX0 yX0_lashBody yX0_lashBody]
def wsX0_lengthBody_r4 : List Cond := [Cond.methodLink RX0 64 yX0_markBody, Cond.instanceMethod yX0_markBody, Cond.selects RX0 yX0_markBody yX0_markBody, Cond.methodLink RX0 67 yX0_pullBody, Cond.instanceMethod yX0_pullBody, Cond.selects RX0 yX0_pullBody yX0_pullBody, Cond.methodLink RX0 70 yX0_hookBody, Cond.instanceMethod yX0_hookBody, Cond.selects RX0 yX0_hookBody yX0_hookBody]
def wsX0_lengthBody : List Cond := .code yX0_lengthBody cX0_lengthBody 5 (some .int) :: ((wsX0_lengthBody_r1 ++ (wsX0_lengthBody_r2 ++ (wsX0_lengthBody_r3 ++ wsX0_lengthBody_r4))) ++ wsX30 ++ wsX00 ++ wsX20)
def wsX0_markBody_r1 : List Cond := [Cond.fieldLink RX0 80 "FerryDecks$Vehicle" "size" "I", Cond.fieldLink RX0 96 "FerryDecks$Vehicle" "load" "I", Cond.methodLink RX0 81 yX0_askAbove, Cond.instanceMethod yX0_askAbove, Cond.selects RX0 yX0_askAbove yX0_askAbove, Cond.initialized RX0, Cond.code yX0_askAbove cX0_askAbove 6 (some .int), Cond.static yX4_within, Cond.initialized RX4, Cond.code yX4_within cX4_within 3 (some .boolean), Cond.methodLink RX0 34 yX0_start, Cond.instanceMethod yX0_start, Cond.selects RX0 yX0_start yX0_start, Cond.code yX0_askVehicle cX0_askVehicle 5 (some .int), Cond.fieldLink RX0 29 "FerryDecks$Vehicle" "kind" "I", Cond.code yX0_feeBody cX0_feeBody 6 (some .int), Cond.fieldLink RX0 9 "FerryDecks$Bodies" "terms" "[I", Cond.methodLink RX0 84 Lib.Math.max.name, Cond.static Lib.Math.max.name, Cond.initialized "java/lang/Math", Cond.code Lib.Math.max.name Lib.Math.max.code 2 (some .int), Cond.methodLink RX0 89 yX0_askVehicle, Cond.instanceMethod yX0_askVehicle, Cond.selects RX0 yX0_askVehicle yX0_askVehicle]
def wsX0_markBody_r2 : List Cond := [Cond.code yX0_hookBody cX0_hookBody 4 (some .int), Cond.code yX0_lashBody cX0_lashBody 5 (some .int), Cond.fieldLink RX0 103 "FerryDecks$Vehicle" "chains" "I", Cond.methodLink RX0 92 yX0_fail, Cond.instanceMethod yX0_fail, Cond.selects RX0 yX0_fail yX0_fail, Cond.code yX0_fail cX0_fail 2 (some .int), Cond.fieldLink RX0 26 "FerryDecks$Bodies" "failure" "I", Cond.methodLink RX0 106 yX0_lashMixed, Cond.instanceMethod yX0_lashMixed, Cond.selects RX0 yX0_lashMixed yX0_lashMixed, Cond.code yX0_lashMixed cX0_lashMixed 5 (some .int), Cond.methodLink RX0 99 yX0_takes, Cond.instanceMethod yX0_takes, Cond.selects RX0 yX0_takes yX0_takes, Cond.code yX0_takes cX0_takes 2 (some .boolean), Cond.code yX0_lengthBody cX0_lengthBody 5 (some .int), Cond.code yX0_pullBody cX0_pullBody 6 (some .int), Cond.code yX0_riskBody cX0_riskBody 6 (some .int), Cond.methodLink RX0 42 yX0_failed, Cond.instanceMethod yX0_failed, Cond.selects RX0 yX0_failed yX0_failed, Cond.code yX0_failed cX0_failed 1 (some .boolean), Cond.code yX0_start cX0_start 7 (some .int)]
def wsX0_markBody_r3 : List Cond := [Cond.fieldLink RX0 18 "FerryDecks$Bodies" "written" "LFerryDecks$Trace;", Cond.static yX4_ownerOf, Cond.code yX4_ownerOf cX4_ownerOf 2 (some .int), Cond.fieldLink RX4 146 "FerryDecks" "OWNERS" "[I", Cond.methodLink RX4 29 yX4_within, Cond.methodLink RX0 46 yX2_write, Cond.instanceMethod yX2_write, Cond.selects RX2 yX2_write yX2_write, Cond.initialized RX2, Cond.code yX2_write cX2_write 2 none, Cond.fieldLink RX2 15 "FerryDecks$Trace" "size" "I", Cond.fieldLink RX2 9 "FerryDecks$Trace" "entries" "[I", Cond.methodLink RX0 50 yX0_lengthBody, Cond.instanceMethod yX0_lengthBody, Cond.selects RX0 yX0_lengthBody yX0_lengthBody, Cond.methodLink RX0 54 yX0_feeBody, Cond.instanceMethod yX0_feeBody, Cond.selects RX0 yX0_feeBody yX0_feeBody, Cond.methodLink RX0 58 yX0_riskBody, Cond.instanceMethod yX0_riskBody, Cond.selects RX0 yX0_riskBody yX0_riskBody, Cond.methodLink RX0 61 yX0_lashBody, Cond.instanceMethod yX0_lashBody, Cond.selects RX0 yX0_lashBody yX0_lashBody]
def wsX0_markBody_r4 : List Cond := [Cond.methodLink RX0 64 yX0_markBody, Cond.instanceMethod yX0_markBody, Cond.selects RX0 yX0_markBody yX0_markBody, Cond.methodLink RX0 67 yX0_pullBody, Cond.instanceMethod yX0_pullBody, Cond.selects RX0 yX0_pullBody yX0_pullBody, Cond.methodLink RX0 70 yX0_hookBody, Cond.instanceMethod yX0_hookBody, Cond.selects RX0 yX0_hookBody yX0_hookBody]
def wsX0_markBody : List Cond := .code yX0_markBody cX0_markBody 5 (some .int) :: ((wsX0_markBody_r1 ++ (wsX0_markBody_r2 ++ (wsX0_markBody_r3 ++ wsX0_markBody_r4))) ++ wsX30 ++ wsX00 ++ wsX20)
def wsX0_pullBody_r1 : List Cond := [Cond.methodLink RX0 81 yX0_askAbove, Cond.instanceMethod yX0_askAbove, Cond.selects RX0 yX0_askAbove yX0_askAbove, Cond.initialized RX0, Cond.methodLink RX0 89 yX0_askVehicle, Cond.instanceMethod yX0_askVehicle, Cond.selects RX0 yX0_askVehicle yX0_askVehicle, Cond.code yX0_askAbove cX0_askAbove 6 (some .int), Cond.static yX4_within, Cond.initialized RX4, Cond.code yX4_within cX4_within 3 (some .boolean), Cond.methodLink RX0 34 yX0_start, Cond.instanceMethod yX0_start, Cond.selects RX0 yX0_start yX0_start, Cond.code yX0_askVehicle cX0_askVehicle 5 (some .int), Cond.fieldLink RX0 29 "FerryDecks$Vehicle" "kind" "I", Cond.code yX0_feeBody cX0_feeBody 6 (some .int), Cond.fieldLink RX0 9 "FerryDecks$Bodies" "terms" "[I", Cond.methodLink RX0 84 Lib.Math.max.name, Cond.static Lib.Math.max.name, Cond.initialized "java/lang/Math", Cond.code Lib.Math.max.name Lib.Math.max.code 2 (some .int), Cond.code yX0_hookBody cX0_hookBody 4 (some .int), Cond.fieldLink RX0 96 "FerryDecks$Vehicle" "load" "I"]
def wsX0_pullBody_r2 : List Cond := [Cond.code yX0_lashBody cX0_lashBody 5 (some .int), Cond.fieldLink RX0 103 "FerryDecks$Vehicle" "chains" "I", Cond.methodLink RX0 92 yX0_fail, Cond.instanceMethod yX0_fail, Cond.selects RX0 yX0_fail yX0_fail, Cond.code yX0_fail cX0_fail 2 (some .int), Cond.fieldLink RX0 26 "FerryDecks$Bodies" "failure" "I", Cond.methodLink RX0 106 yX0_lashMixed, Cond.instanceMethod yX0_lashMixed, Cond.selects RX0 yX0_lashMixed yX0_lashMixed, Cond.code yX0_lashMixed cX0_lashMixed 5 (some .int), Cond.methodLink RX0 99 yX0_takes, Cond.instanceMethod yX0_takes, Cond.selects RX0 yX0_takes yX0_takes, Cond.code yX0_takes cX0_takes 2 (some .boolean), Cond.code yX0_lengthBody cX0_lengthBody 5 (some .int), Cond.fieldLink RX0 80 "FerryDecks$Vehicle" "size" "I", Cond.code yX0_markBody cX0_markBody 5 (some .int), Cond.code yX0_riskBody cX0_riskBody 6 (some .int), Cond.methodLink RX0 42 yX0_failed, Cond.instanceMethod yX0_failed, Cond.selects RX0 yX0_failed yX0_failed, Cond.code yX0_failed cX0_failed 1 (some .boolean), Cond.code yX0_start cX0_start 7 (some .int)]
def wsX0_pullBody_r3 : List Cond := [Cond.fieldLink RX0 18 "FerryDecks$Bodies" "written" "LFerryDecks$Trace;", Cond.static yX4_ownerOf, Cond.code yX4_ownerOf cX4_ownerOf 2 (some .int), Cond.fieldLink RX4 146 "FerryDecks" "OWNERS" "[I", Cond.methodLink RX4 29 yX4_within, Cond.methodLink RX0 46 yX2_write, Cond.instanceMethod yX2_write, Cond.selects RX2 yX2_write yX2_write, Cond.initialized RX2, Cond.code yX2_write cX2_write 2 none, Cond.fieldLink RX2 15 "FerryDecks$Trace" "size" "I", Cond.fieldLink RX2 9 "FerryDecks$Trace" "entries" "[I", Cond.methodLink RX0 50 yX0_lengthBody, Cond.instanceMethod yX0_lengthBody, Cond.selects RX0 yX0_lengthBody yX0_lengthBody, Cond.methodLink RX0 54 yX0_feeBody, Cond.instanceMethod yX0_feeBody, Cond.selects RX0 yX0_feeBody yX0_feeBody, Cond.methodLink RX0 58 yX0_riskBody, Cond.instanceMethod yX0_riskBody, Cond.selects RX0 yX0_riskBody yX0_riskBody, Cond.methodLink RX0 61 yX0_lashBody, Cond.instanceMethod yX0_lashBody, Cond.selects RX0 yX0_lashBody yX0_lashBody]
def wsX0_pullBody_r4 : List Cond := [Cond.methodLink RX0 64 yX0_markBody, Cond.instanceMethod yX0_markBody, Cond.selects RX0 yX0_markBody yX0_markBody, Cond.methodLink RX0 67 yX0_pullBody, Cond.instanceMethod yX0_pullBody, Cond.selects RX0 yX0_pullBody yX0_pullBody, Cond.methodLink RX0 70 yX0_hookBody, Cond.instanceMethod yX0_hookBody, Cond.selects RX0 yX0_hookBody yX0_hookBody]
def wsX0_pullBody : List Cond := .code yX0_pullBody cX0_pullBody 6 (some .int) :: ((wsX0_pullBody_r1 ++ (wsX0_pullBody_r2 ++ (wsX0_pullBody_r3 ++ wsX0_pullBody_r4))) ++ wsX30 ++ wsX00 ++ wsX20)
def wsX0_riskBody_r1 : List Cond := [Cond.fieldLink RX0 96 "FerryDecks$Vehicle" "load" "I", Cond.fieldLink RX0 9 "FerryDecks$Bodies" "terms" "[I", Cond.methodLink RX0 92 yX0_fail, Cond.instanceMethod yX0_fail, Cond.selects RX0 yX0_fail yX0_fail, Cond.initialized RX0, Cond.code yX0_fail cX0_fail 2 (some .int), Cond.fieldLink RX0 26 "FerryDecks$Bodies" "failure" "I", Cond.methodLink RX0 81 yX0_askAbove, Cond.instanceMethod yX0_askAbove, Cond.selects RX0 yX0_askAbove yX0_askAbove, Cond.methodLink RX0 99 yX0_takes, Cond.instanceMethod yX0_takes, Cond.selects RX0 yX0_takes yX0_takes, Cond.code yX0_takes cX0_takes 2 (some .boolean), Cond.methodLink RX0 42 yX0_failed, Cond.instanceMethod yX0_failed, Cond.selects RX0 yX0_failed yX0_failed, Cond.code yX0_failed cX0_failed 1 (some .boolean), Cond.code yX0_askAbove cX0_askAbove 6 (some .int), Cond.static yX4_within, Cond.initialized RX4, Cond.code yX4_within cX4_within 3 (some .boolean), Cond.methodLink RX0 34 yX0_start]
def wsX0_riskBody_r2 : List Cond := [Cond.instanceMethod yX0_start, Cond.selects RX0 yX0_start yX0_start, Cond.code yX0_askVehicle cX0_askVehicle 5 (some .int), Cond.fieldLink RX0 29 "FerryDecks$Vehicle" "kind" "I", Cond.code yX0_feeBody cX0_feeBody 6 (some .int), Cond.methodLink RX0 84 Lib.Math.max.name, Cond.static Lib.Math.max.name, Cond.initialized "java/lang/Math", Cond.code Lib.Math.max.name Lib.Math.max.code 2 (some .int), Cond.methodLink RX0 89 yX0_askVehicle, Cond.instanceMethod yX0_askVehicle, Cond.selects RX0 yX0_askVehicle yX0_askVehicle, Cond.code yX0_hookBody cX0_hookBody 4 (some .int), Cond.code yX0_lashBody cX0_lashBody 5 (some .int), Cond.fieldLink RX0 103 "FerryDecks$Vehicle" "chains" "I", Cond.methodLink RX0 106 yX0_lashMixed, Cond.instanceMethod yX0_lashMixed, Cond.selects RX0 yX0_lashMixed yX0_lashMixed, Cond.code yX0_lashMixed cX0_lashMixed 5 (some .int), Cond.code yX0_lengthBody cX0_lengthBody 5 (some .int), Cond.fieldLink RX0 80 "FerryDecks$Vehicle" "size" "I", Cond.code yX0_markBody cX0_markBody 5 (some .int), Cond.code yX0_pullBody cX0_pullBody 6 (some .int), Cond.code yX0_start cX0_start 7 (some .int)]
def wsX0_riskBody_r3 : List Cond := [Cond.fieldLink RX0 18 "FerryDecks$Bodies" "written" "LFerryDecks$Trace;", Cond.static yX4_ownerOf, Cond.code yX4_ownerOf cX4_ownerOf 2 (some .int), Cond.fieldLink RX4 146 "FerryDecks" "OWNERS" "[I", Cond.methodLink RX4 29 yX4_within, Cond.methodLink RX0 46 yX2_write, Cond.instanceMethod yX2_write, Cond.selects RX2 yX2_write yX2_write, Cond.initialized RX2, Cond.code yX2_write cX2_write 2 none, Cond.fieldLink RX2 15 "FerryDecks$Trace" "size" "I", Cond.fieldLink RX2 9 "FerryDecks$Trace" "entries" "[I", Cond.methodLink RX0 50 yX0_lengthBody, Cond.instanceMethod yX0_lengthBody, Cond.selects RX0 yX0_lengthBody yX0_lengthBody, Cond.methodLink RX0 54 yX0_feeBody, Cond.instanceMethod yX0_feeBody, Cond.selects RX0 yX0_feeBody yX0_feeBody, Cond.methodLink RX0 58 yX0_riskBody, Cond.instanceMethod yX0_riskBody, Cond.selects RX0 yX0_riskBody yX0_riskBody, Cond.methodLink RX0 61 yX0_lashBody, Cond.instanceMethod yX0_lashBody, Cond.selects RX0 yX0_lashBody yX0_lashBody]
def wsX0_riskBody_r4 : List Cond := [Cond.methodLink RX0 64 yX0_markBody, Cond.instanceMethod yX0_markBody, Cond.selects RX0 yX0_markBody yX0_markBody, Cond.methodLink RX0 67 yX0_pullBody, Cond.instanceMethod yX0_pullBody, Cond.selects RX0 yX0_pullBody yX0_pullBody, Cond.methodLink RX0 70 yX0_hookBody, Cond.instanceMethod yX0_hookBody, Cond.selects RX0 yX0_hookBody yX0_hookBody]
def wsX0_riskBody : List Cond := .code yX0_riskBody cX0_riskBody 6 (some .int) :: ((wsX0_riskBody_r1 ++ (wsX0_riskBody_r2 ++ (wsX0_riskBody_r3 ++ wsX0_riskBody_r4))) ++ wsX30 ++ wsX00 ++ wsX20)
def wsX0_start_r1 : List Cond := [Cond.fieldLink RX0 18 "FerryDecks$Bodies" "written" "LFerryDecks$Trace;", Cond.static yX4_ownerOf, Cond.initialized RX4, Cond.code yX4_ownerOf cX4_ownerOf 2 (some .int), Cond.fieldLink RX4 146 "FerryDecks" "OWNERS" "[I", Cond.methodLink RX4 29 yX4_within, Cond.static yX4_within, Cond.code yX4_within cX4_within 3 (some .boolean), Cond.methodLink RX0 42 yX0_failed, Cond.instanceMethod yX0_failed, Cond.selects RX0 yX0_failed yX0_failed, Cond.initialized RX0, Cond.code yX0_failed cX0_failed 1 (some .boolean), Cond.fieldLink RX0 26 "FerryDecks$Bodies" "failure" "I", Cond.methodLink RX0 46 yX2_write, Cond.instanceMethod yX2_write, Cond.selects RX2 yX2_write yX2_write, Cond.initialized RX2, Cond.code yX2_write cX2_write 2 none, Cond.fieldLink RX2 15 "FerryDecks$Trace" "size" "I", Cond.fieldLink RX2 9 "FerryDecks$Trace" "entries" "[I", Cond.methodLink RX0 50 yX0_lengthBody, Cond.instanceMethod yX0_lengthBody, Cond.selects RX0 yX0_lengthBody yX0_lengthBody]
def wsX0_start_r2 : List Cond := [Cond.methodLink RX0 54 yX0_feeBody, Cond.instanceMethod yX0_feeBody, Cond.selects RX0 yX0_feeBody yX0_feeBody, Cond.methodLink RX0 58 yX0_riskBody, Cond.instanceMethod yX0_riskBody, Cond.selects RX0 yX0_riskBody yX0_riskBody, Cond.methodLink RX0 61 yX0_lashBody, Cond.instanceMethod yX0_lashBody, Cond.selects RX0 yX0_lashBody yX0_lashBody, Cond.methodLink RX0 64 yX0_markBody, Cond.instanceMethod yX0_markBody, Cond.selects RX0 yX0_markBody yX0_markBody, Cond.methodLink RX0 67 yX0_pullBody, Cond.instanceMethod yX0_pullBody, Cond.selects RX0 yX0_pullBody yX0_pullBody, Cond.methodLink RX0 70 yX0_hookBody, Cond.instanceMethod yX0_hookBody, Cond.selects RX0 yX0_hookBody yX0_hookBody, Cond.code yX0_askAbove cX0_askAbove 6 (some .int), Cond.methodLink RX0 34 yX0_start, Cond.instanceMethod yX0_start, Cond.selects RX0 yX0_start yX0_start, Cond.code yX0_askVehicle cX0_askVehicle 5 (some .int), Cond.fieldLink RX0 29 "FerryDecks$Vehicle" "kind" "I"]
def wsX0_start_r3 : List Cond := [Cond.code yX0_feeBody cX0_feeBody 6 (some .int), Cond.fieldLink RX0 9 "FerryDecks$Bodies" "terms" "[I", Cond.methodLink RX0 84 Lib.Math.max.name, Cond.static Lib.Math.max.name, Cond.initialized "java/lang/Math", Cond.code Lib.Math.max.name Lib.Math.max.code 2 (some .int), Cond.methodLink RX0 81 yX0_askAbove, Cond.instanceMethod yX0_askAbove, Cond.selects RX0 yX0_askAbove yX0_askAbove, Cond.methodLink RX0 89 yX0_askVehicle, Cond.instanceMethod yX0_askVehicle, Cond.selects RX0 yX0_askVehicle yX0_askVehicle, Cond.code yX0_hookBody cX0_hookBody 4 (some .int), Cond.fieldLink RX0 96 "FerryDecks$Vehicle" "load" "I", Cond.code yX0_lashBody cX0_lashBody 5 (some .int), Cond.fieldLink RX0 103 "FerryDecks$Vehicle" "chains" "I", Cond.methodLink RX0 92 yX0_fail, Cond.instanceMethod yX0_fail, Cond.selects RX0 yX0_fail yX0_fail, Cond.code yX0_fail cX0_fail 2 (some .int), Cond.methodLink RX0 106 yX0_lashMixed, Cond.instanceMethod yX0_lashMixed, Cond.selects RX0 yX0_lashMixed yX0_lashMixed, Cond.code yX0_lashMixed cX0_lashMixed 5 (some .int)]
def wsX0_start_r4 : List Cond := [Cond.methodLink RX0 99 yX0_takes, Cond.instanceMethod yX0_takes, Cond.selects RX0 yX0_takes yX0_takes, Cond.code yX0_takes cX0_takes 2 (some .boolean), Cond.code yX0_lengthBody cX0_lengthBody 5 (some .int), Cond.fieldLink RX0 80 "FerryDecks$Vehicle" "size" "I", Cond.code yX0_markBody cX0_markBody 5 (some .int), Cond.code yX0_pullBody cX0_pullBody 6 (some .int), Cond.code yX0_riskBody cX0_riskBody 6 (some .int)]
def wsX0_start : List Cond := .code yX0_start cX0_start 7 (some .int) :: ((wsX0_start_r1 ++ (wsX0_start_r2 ++ (wsX0_start_r3 ++ wsX0_start_r4))) ++ wsX30 ++ wsX00 ++ wsX20)
def wsX0_answer_r1 : List Cond := [Cond.fieldLink RX0 29 "FerryDecks$Vehicle" "kind" "I", Cond.methodLink RX0 34 yX0_start, Cond.instanceMethod yX0_start, Cond.selects RX0 yX0_start yX0_start, Cond.initialized RX0, Cond.code yX0_start cX0_start 7 (some .int), Cond.fieldLink RX0 18 "FerryDecks$Bodies" "written" "LFerryDecks$Trace;", Cond.static yX4_ownerOf, Cond.initialized RX4, Cond.code yX4_ownerOf cX4_ownerOf 2 (some .int), Cond.fieldLink RX4 146 "FerryDecks" "OWNERS" "[I", Cond.methodLink RX4 29 yX4_within, Cond.static yX4_within, Cond.code yX4_within cX4_within 3 (some .boolean), Cond.methodLink RX0 42 yX0_failed, Cond.instanceMethod yX0_failed, Cond.selects RX0 yX0_failed yX0_failed, Cond.code yX0_failed cX0_failed 1 (some .boolean), Cond.fieldLink RX0 26 "FerryDecks$Bodies" "failure" "I", Cond.methodLink RX0 46 yX2_write, Cond.instanceMethod yX2_write, Cond.selects RX2 yX2_write yX2_write, Cond.initialized RX2, Cond.code yX2_write cX2_write 2 none]
def wsX0_answer_r2 : List Cond := [Cond.fieldLink RX2 15 "FerryDecks$Trace" "size" "I", Cond.fieldLink RX2 9 "FerryDecks$Trace" "entries" "[I", Cond.methodLink RX0 50 yX0_lengthBody, Cond.instanceMethod yX0_lengthBody, Cond.selects RX0 yX0_lengthBody yX0_lengthBody, Cond.methodLink RX0 54 yX0_feeBody, Cond.instanceMethod yX0_feeBody, Cond.selects RX0 yX0_feeBody yX0_feeBody, Cond.methodLink RX0 58 yX0_riskBody, Cond.instanceMethod yX0_riskBody, Cond.selects RX0 yX0_riskBody yX0_riskBody, Cond.methodLink RX0 61 yX0_lashBody, Cond.instanceMethod yX0_lashBody, Cond.selects RX0 yX0_lashBody yX0_lashBody, Cond.methodLink RX0 64 yX0_markBody, Cond.instanceMethod yX0_markBody, Cond.selects RX0 yX0_markBody yX0_markBody, Cond.methodLink RX0 67 yX0_pullBody, Cond.instanceMethod yX0_pullBody, Cond.selects RX0 yX0_pullBody yX0_pullBody, Cond.methodLink RX0 70 yX0_hookBody, Cond.instanceMethod yX0_hookBody, Cond.selects RX0 yX0_hookBody yX0_hookBody, Cond.code yX0_askAbove cX0_askAbove 6 (some .int)]
def wsX0_answer_r3 : List Cond := [Cond.code yX0_askVehicle cX0_askVehicle 5 (some .int), Cond.code yX0_feeBody cX0_feeBody 6 (some .int), Cond.fieldLink RX0 9 "FerryDecks$Bodies" "terms" "[I", Cond.methodLink RX0 84 Lib.Math.max.name, Cond.static Lib.Math.max.name, Cond.initialized "java/lang/Math", Cond.code Lib.Math.max.name Lib.Math.max.code 2 (some .int), Cond.methodLink RX0 81 yX0_askAbove, Cond.instanceMethod yX0_askAbove, Cond.selects RX0 yX0_askAbove yX0_askAbove, Cond.methodLink RX0 89 yX0_askVehicle, Cond.instanceMethod yX0_askVehicle, Cond.selects RX0 yX0_askVehicle yX0_askVehicle, Cond.code yX0_hookBody cX0_hookBody 4 (some .int), Cond.fieldLink RX0 96 "FerryDecks$Vehicle" "load" "I", Cond.code yX0_lashBody cX0_lashBody 5 (some .int), Cond.fieldLink RX0 103 "FerryDecks$Vehicle" "chains" "I", Cond.methodLink RX0 92 yX0_fail, Cond.instanceMethod yX0_fail, Cond.selects RX0 yX0_fail yX0_fail, Cond.code yX0_fail cX0_fail 2 (some .int), Cond.methodLink RX0 106 yX0_lashMixed, Cond.instanceMethod yX0_lashMixed, Cond.selects RX0 yX0_lashMixed yX0_lashMixed]
def wsX0_answer_r4 : List Cond := [Cond.code yX0_lashMixed cX0_lashMixed 5 (some .int), Cond.methodLink RX0 99 yX0_takes, Cond.instanceMethod yX0_takes, Cond.selects RX0 yX0_takes yX0_takes, Cond.code yX0_takes cX0_takes 2 (some .boolean), Cond.code yX0_lengthBody cX0_lengthBody 5 (some .int), Cond.fieldLink RX0 80 "FerryDecks$Vehicle" "size" "I", Cond.code yX0_markBody cX0_markBody 5 (some .int), Cond.code yX0_pullBody cX0_pullBody 6 (some .int), Cond.code yX0_riskBody cX0_riskBody 6 (some .int)]
def wsX0_answer : List Cond := .code yX0_answer cX0_answer 4 (some .int) :: ((wsX0_answer_r1 ++ (wsX0_answer_r2 ++ (wsX0_answer_r3 ++ wsX0_answer_r4))) ++ wsX30 ++ wsX00 ++ wsX20)
def wsX1_init : List Cond := .code yX1_init cX1_init 1 none :: ([.methodLink RX1 1 objectInit, .instanceMethod objectInit, .code objectInit ⟨#[0xb1]⟩ 1 none])
def wsX1_left : List Cond := .code yX1_left cX1_left 1 (some .int) :: ([.fieldLink RX1 7 "FerryDecks$Deck" "metres" "I", .fieldLink RX1 13 "FerryDecks$Deck" "taken" "I"] ++ wsX10)
def wsX1_receive : List Cond := .code yX1_receive cX1_receive 2 none :: ([.fieldLink RX1 13 "FerryDecks$Deck" "taken" "I", .fieldLink RX1 16 "FerryDecks$Deck" "vehiclesOn" "I"] ++ wsX10)
def wsX1_release : List Cond := .code yX1_release cX1_release 2 none :: ([.fieldLink RX1 13 "FerryDecks$Deck" "taken" "I", .fieldLink RX1 16 "FerryDecks$Deck" "vehiclesOn" "I"] ++ wsX10)
def wsX2_has : List Cond := .code yX2_has cX2_has 2 (some .boolean) :: ([.fieldLink RX2 15 "FerryDecks$Trace" "size" "I", .static yX4_within, .initialized RX4, .code yX4_within cX4_within 3 (some .boolean)] ++ wsX20)
def wsX3_init : List Cond := .code yX3_init cX3_init 4 none :: ([.methodLink RX3 3 objectInit, .instanceMethod objectInit, .code objectInit ⟨#[0xb1]⟩ 1 none, .fieldLink RX3 9 "FerryDecks$Vehicle" "kind" "I", .fieldLink RX3 15 "FerryDecks$Vehicle" "size" "I", .fieldLink RX3 18 "FerryDecks$Vehicle" "load" "I", .fieldLink RX3 21 "FerryDecks$Vehicle" "deckNumber" "I"] ++ wsX30)
def wsX3_goAshore : List Cond := .code yX3_goAshore cX3_goAshore 1 none :: ([.fieldLink RX3 24 "FerryDecks$Vehicle" "chains" "I", .fieldLink RX3 21 "FerryDecks$Vehicle" "deckNumber" "I", .fieldLink RX3 27 "FerryDecks$Vehicle" "metres" "I"] ++ wsX30)
def wsX4_init_r1 : List Cond := [Cond.methodLink RX4 3 objectInit, Cond.instanceMethod objectInit, Cond.code objectInit ⟨#[0xb1]⟩ 1 none, Cond.classLink RX4 9 RX3, Cond.fieldLink RX4 11 "FerryDecks" "vehicles" "[LFerryDecks$Vehicle;", Cond.classLink RX4 15 RX1, Cond.fieldLink RX4 17 "FerryDecks" "decks" "[LFerryDecks$Deck;", Cond.instantiable RX1 3, Cond.initialized RX1, Cond.classLink RX4 22 RX0, Cond.instantiable RX0 3, Cond.initialized RX0, Cond.fieldLink RX4 25 "FerryDecks" "bodies" "LFerryDecks$Bodies;", Cond.instanceMethod yX1_init, Cond.code yX1_init cX1_init 1 none, Cond.methodLink RX1 1 objectInit, Cond.instanceMethod yX0_init, Cond.code yX0_init cX0_init 1 none, Cond.methodLink RX0 3 objectInit, Cond.arrayClass .int, Cond.fieldLink RX0 9 "FerryDecks$Bodies" "terms" "[I", Cond.classLink RX0 15 RX2, Cond.instantiable RX2 2, Cond.initialized RX2]
def wsX4_init_r2 : List Cond := [Cond.fieldLink RX0 18 "FerryDecks$Bodies" "written" "LFerryDecks$Trace;", Cond.instanceMethod yX2_init, Cond.code yX2_init cX2_init 1 none, Cond.methodLink RX2 3 objectInit, Cond.fieldLink RX2 9 "FerryDecks$Trace" "entries" "[I"]
def wsX4_init : List Cond := .code yX4_init cX4_init 2 none :: ((wsX4_init_r1 ++ wsX4_init_r2) ++ wsX40 ++ wsX10 ++ wsX00 ++ wsX20)
def wsX4_term : List Cond := .code yX4_term cX4_term 4 (some .int) :: ([.fieldLink RX4 25 "FerryDecks" "bodies" "LFerryDecks$Bodies;", .fieldLink RX4 33 "FerryDecks$Bodies" "terms" "[I", .methodLink RX4 29 yX4_within, .static yX4_within, .initialized RX4, .code yX4_within cX4_within 3 (some .boolean)] ++ wsX40 ++ wsX00)
def wsX4_deckAt : List Cond := .code yX4_deckAt cX4_deckAt 2 (some (.object "FerryDecks$Deck")) :: ([.fieldLink RX4 17 "FerryDecks" "decks" "[LFerryDecks$Deck;", .methodLink RX4 29 yX4_within, .static yX4_within, .initialized RX4, .code yX4_within cX4_within 3 (some .boolean)] ++ wsX40)
def wsX4_deck : List Cond := .code yX4_deck cX4_deck 5 (some .int) :: ([.fieldLink RX4 41 "FerryDecks$Deck" "taken" "I", .fieldLink RX4 45 "FerryDecks$Deck" "metres" "I", .methodLink RX4 37 yX4_deckAt, .instanceMethod yX4_deckAt, .selects RX4 yX4_deckAt yX4_deckAt, .initialized RX4, .code yX4_deckAt cX4_deckAt 2 (some (.object "FerryDecks$Deck")), .fieldLink RX4 17 "FerryDecks" "decks" "[LFerryDecks$Deck;", .methodLink RX4 29 yX4_within, .static yX4_within, .code yX4_within cX4_within 3 (some .boolean)] ++ wsX10 ++ wsX40)
def wsX4_vehicle : List Cond := .code yX4_vehicle cX4_vehicle 5 (some .int) :: ([.constant RX4 48 (100000), .fieldLink RX4 49 "FerryDecks" "vehicleCount" "I", .fieldLink RX4 11 "FerryDecks" "vehicles" "[LFerryDecks$Vehicle;", .classLink RX4 9 RX3, .instantiable RX3 6, .initialized RX3, .methodLink RX4 29 yX4_within, .static yX4_within, .initialized RX4, .code yX4_within cX4_within 3 (some .boolean), .methodLink RX4 52 yX3_init, .instanceMethod yX3_init, .code yX3_init cX3_init 4 none, .methodLink RX3 3 objectInit, .instanceMethod objectInit, .code objectInit ⟨#[0xb1]⟩ 1 none, .fieldLink RX3 9 "FerryDecks$Vehicle" "kind" "I", .fieldLink RX3 15 "FerryDecks$Vehicle" "size" "I", .fieldLink RX3 18 "FerryDecks$Vehicle" "load" "I", .fieldLink RX3 21 "FerryDecks$Vehicle" "deckNumber" "I"] ++ wsX40 ++ wsX30)
def wsX4_vehicleAt : List Cond := .code yX4_vehicleAt cX4_vehicleAt 2 (some (.object "FerryDecks$Vehicle")) :: ([.fieldLink RX4 49 "FerryDecks" "vehicleCount" "I", .fieldLink RX4 11 "FerryDecks" "vehicles" "[LFerryDecks$Vehicle;", .methodLink RX4 29 yX4_within, .static yX4_within, .initialized RX4, .code yX4_within cX4_within 3 (some .boolean)] ++ wsX40)
def wsX4_beginAct : List Cond := .code yX4_beginAct cX4_beginAct 1 none :: ([.fieldLink RX4 140 "FerryDecks" "acts" "I", .fieldLink RX4 25 "FerryDecks" "bodies" "LFerryDecks$Bodies;", .methodLink RX4 149 yX0_begin, .instanceMethod yX0_begin, .selects RX0 yX0_begin yX0_begin, .initialized RX0, .code yX0_begin cX0_begin 1 none, .fieldLink RX0 18 "FerryDecks$Bodies" "written" "LFerryDecks$Trace;", .fieldLink RX0 22 "FerryDecks$Trace" "size" "I", .fieldLink RX0 26 "FerryDecks$Bodies" "failure" "I"] ++ wsX40 ++ wsX00 ++ wsX20)
def wsX4_endByFailure : List Cond := .code yX4_endByFailure cX4_endByFailure 1 (some .int) :: ([.fieldLink RX4 143 "FerryDecks" "failedActs" "I", .fieldLink RX4 25 "FerryDecks" "bodies" "LFerryDecks$Bodies;", .fieldLink RX4 152 "FerryDecks$Bodies" "failure" "I"] ++ wsX40 ++ wsX00)
def wsX4_ask_r1 : List Cond := [Cond.constantLong RX4 59 (-9223372036854775808), Cond.fieldLink RX4 64 "FerryDecks$Vehicle" "kind" "I", Cond.constantLong RX4 71 (-9223372036854775807), Cond.fieldLink RX4 25 "FerryDecks" "bodies" "LFerryDecks$Bodies;", Cond.constantLong RX4 81 (-9223372036854775798), Cond.methodLink RX4 55 yX4_vehicleAt, Cond.instanceMethod yX4_vehicleAt, Cond.selects RX4 yX4_vehicleAt yX4_vehicleAt, Cond.initialized RX4, Cond.code yX4_vehicleAt cX4_vehicleAt 2 (some (.object "FerryDecks$Vehicle")), Cond.fieldLink RX4 49 "FerryDecks" "vehicleCount" "I", Cond.fieldLink RX4 11 "FerryDecks" "vehicles" "[LFerryDecks$Vehicle;", Cond.methodLink RX4 29 yX4_within, Cond.static yX4_within, Cond.code yX4_within cX4_within 3 (some .boolean), Cond.methodLink RX4 61 yX4_beginAct, Cond.instanceMethod yX4_beginAct, Cond.selects RX4 yX4_beginAct yX4_beginAct, Cond.code yX4_beginAct cX4_beginAct 1 none, Cond.fieldLink RX4 140 "FerryDecks" "acts" "I", Cond.methodLink RX4 149 yX0_begin, Cond.instanceMethod yX0_begin, Cond.selects RX0 yX0_begin yX0_begin, Cond.initialized RX0]
def wsX4_ask_r2 : List Cond := [Cond.code yX0_begin cX0_begin 1 none, Cond.fieldLink RX0 18 "FerryDecks$Bodies" "written" "LFerryDecks$Trace;", Cond.fieldLink RX0 22 "FerryDecks$Trace" "size" "I", Cond.fieldLink RX0 26 "FerryDecks$Bodies" "failure" "I", Cond.methodLink RX4 67 yX4_ownerOf, Cond.static yX4_ownerOf, Cond.code yX4_ownerOf cX4_ownerOf 2 (some .int), Cond.fieldLink RX4 146 "FerryDecks" "OWNERS" "[I", Cond.methodLink RX4 73 yX0_answer, Cond.instanceMethod yX0_answer, Cond.selects RX0 yX0_answer yX0_answer, Cond.code yX0_answer cX0_answer 4 (some .int), Cond.fieldLink RX0 29 "FerryDecks$Vehicle" "kind" "I", Cond.methodLink RX0 34 yX0_start, Cond.instanceMethod yX0_start, Cond.selects RX0 yX0_start yX0_start, Cond.code yX0_start cX0_start 7 (some .int), Cond.methodLink RX0 42 yX0_failed, Cond.instanceMethod yX0_failed, Cond.selects RX0 yX0_failed yX0_failed, Cond.code yX0_failed cX0_failed 1 (some .boolean), Cond.methodLink RX0 46 yX2_write, Cond.instanceMethod yX2_write, Cond.selects RX2 yX2_write yX2_write]
def wsX4_ask_r3 : List Cond := [Cond.initialized RX2, Cond.code yX2_write cX2_write 2 none, Cond.fieldLink RX2 15 "FerryDecks$Trace" "size" "I", Cond.fieldLink RX2 9 "FerryDecks$Trace" "entries" "[I", Cond.methodLink RX0 50 yX0_lengthBody, Cond.instanceMethod yX0_lengthBody, Cond.selects RX0 yX0_lengthBody yX0_lengthBody, Cond.methodLink RX0 54 yX0_feeBody, Cond.instanceMethod yX0_feeBody, Cond.selects RX0 yX0_feeBody yX0_feeBody, Cond.methodLink RX0 58 yX0_riskBody, Cond.instanceMethod yX0_riskBody, Cond.selects RX0 yX0_riskBody yX0_riskBody, Cond.methodLink RX0 61 yX0_lashBody, Cond.instanceMethod yX0_lashBody, Cond.selects RX0 yX0_lashBody yX0_lashBody, Cond.methodLink RX0 64 yX0_markBody, Cond.instanceMethod yX0_markBody, Cond.selects RX0 yX0_markBody yX0_markBody, Cond.methodLink RX0 67 yX0_pullBody, Cond.instanceMethod yX0_pullBody, Cond.selects RX0 yX0_pullBody yX0_pullBody, Cond.methodLink RX0 70 yX0_hookBody, Cond.instanceMethod yX0_hookBody]
def wsX4_ask_r4 : List Cond := [Cond.selects RX0 yX0_hookBody yX0_hookBody, Cond.code yX0_askAbove cX0_askAbove 6 (some .int), Cond.code yX0_askVehicle cX0_askVehicle 5 (some .int), Cond.code yX0_feeBody cX0_feeBody 6 (some .int), Cond.fieldLink RX0 9 "FerryDecks$Bodies" "terms" "[I", Cond.methodLink RX0 84 Lib.Math.max.name, Cond.static Lib.Math.max.name, Cond.initialized "java/lang/Math", Cond.code Lib.Math.max.name Lib.Math.max.code 2 (some .int), Cond.methodLink RX0 81 yX0_askAbove, Cond.instanceMethod yX0_askAbove, Cond.selects RX0 yX0_askAbove yX0_askAbove, Cond.methodLink RX0 89 yX0_askVehicle, Cond.instanceMethod yX0_askVehicle, Cond.selects RX0 yX0_askVehicle yX0_askVehicle, Cond.code yX0_hookBody cX0_hookBody 4 (some .int), Cond.fieldLink RX0 96 "FerryDecks$Vehicle" "load" "I", Cond.code yX0_lashBody cX0_lashBody 5 (some .int), Cond.fieldLink RX0 103 "FerryDecks$Vehicle" "chains" "I", Cond.methodLink RX0 92 yX0_fail, Cond.instanceMethod yX0_fail, Cond.selects RX0 yX0_fail yX0_fail, Cond.code yX0_fail cX0_fail 2 (some .int), Cond.methodLink RX0 106 yX0_lashMixed]
def wsX4_ask_r5 : List Cond := [Cond.instanceMethod yX0_lashMixed, Cond.selects RX0 yX0_lashMixed yX0_lashMixed, Cond.code yX0_lashMixed cX0_lashMixed 5 (some .int), Cond.methodLink RX0 99 yX0_takes, Cond.instanceMethod yX0_takes, Cond.selects RX0 yX0_takes yX0_takes, Cond.code yX0_takes cX0_takes 2 (some .boolean), Cond.code yX0_lengthBody cX0_lengthBody 5 (some .int), Cond.fieldLink RX0 80 "FerryDecks$Vehicle" "size" "I", Cond.code yX0_markBody cX0_markBody 5 (some .int), Cond.code yX0_pullBody cX0_pullBody 6 (some .int), Cond.code yX0_riskBody cX0_riskBody 6 (some .int), Cond.methodLink RX4 77 yX0_failed, Cond.methodLink RX4 83 yX4_endByFailure, Cond.instanceMethod yX4_endByFailure, Cond.selects RX4 yX4_endByFailure yX4_endByFailure, Cond.code yX4_endByFailure cX4_endByFailure 1 (some .int), Cond.fieldLink RX4 143 "FerryDecks" "failedActs" "I", Cond.fieldLink RX4 152 "FerryDecks$Bodies" "failure" "I"]
def wsX4_ask : List Cond := .code yX4_ask cX4_ask 6 (some .long) :: ((wsX4_ask_r1 ++ (wsX4_ask_r2 ++ (wsX4_ask_r3 ++ (wsX4_ask_r4 ++ wsX4_ask_r5)))) ++ wsX30 ++ wsX40 ++ wsX00 ++ wsX20)
def wsX4_trace : List Cond := .code yX4_trace cX4_trace 2 (some .int) :: ([.fieldLink RX4 25 "FerryDecks" "bodies" "LFerryDecks$Bodies;", .fieldLink RX4 87 "FerryDecks$Bodies" "written" "LFerryDecks$Trace;", .fieldLink RX4 97 "FerryDecks$Trace" "entries" "[I", .methodLink RX4 91 yX2_has, .instanceMethod yX2_has, .selects RX2 yX2_has yX2_has, .initialized RX2, .code yX2_has cX2_has 2 (some .boolean), .fieldLink RX2 15 "FerryDecks$Trace" "size" "I", .static yX4_within, .initialized RX4, .code yX4_within cX4_within 3 (some .boolean)] ++ wsX40 ++ wsX00 ++ wsX20)
def wsX4_board_r1 : List Cond := [Cond.fieldLink RX4 100 "FerryDecks$Vehicle" "deckNumber" "I", Cond.fieldLink RX4 25 "FerryDecks" "bodies" "LFerryDecks$Bodies;", Cond.fieldLink RX4 103 "FerryDecks" "latestRisk" "I", Cond.fieldLink RX4 109 "FerryDecks" "theTill" "J", Cond.fieldLink RX4 113 "FerryDecks$Vehicle" "metres" "I", Cond.methodLink RX4 55 yX4_vehicleAt, Cond.instanceMethod yX4_vehicleAt, Cond.selects RX4 yX4_vehicleAt yX4_vehicleAt, Cond.initialized RX4, Cond.code yX4_vehicleAt cX4_vehicleAt 2 (some (.object "FerryDecks$Vehicle")), Cond.fieldLink RX4 49 "FerryDecks" "vehicleCount" "I", Cond.fieldLink RX4 11 "FerryDecks" "vehicles" "[LFerryDecks$Vehicle;", Cond.methodLink RX4 29 yX4_within, Cond.static yX4_within, Cond.code yX4_within cX4_within 3 (some .boolean), Cond.methodLink RX4 37 yX4_deckAt, Cond.instanceMethod yX4_deckAt, Cond.selects RX4 yX4_deckAt yX4_deckAt, Cond.code yX4_deckAt cX4_deckAt 2 (some (.object "FerryDecks$Deck")), Cond.fieldLink RX4 17 "FerryDecks" "decks" "[LFerryDecks$Deck;", Cond.methodLink RX4 61 yX4_beginAct, Cond.instanceMethod yX4_beginAct, Cond.selects RX4 yX4_beginAct yX4_beginAct, Cond.code yX4_beginAct cX4_beginAct 1 none]
def wsX4_board_r2 : List Cond := [Cond.fieldLink RX4 140 "FerryDecks" "acts" "I", Cond.methodLink RX4 149 yX0_begin, Cond.instanceMethod yX0_begin, Cond.selects RX0 yX0_begin yX0_begin, Cond.initialized RX0, Cond.code yX0_begin cX0_begin 1 none, Cond.fieldLink RX0 18 "FerryDecks$Bodies" "written" "LFerryDecks$Trace;", Cond.fieldLink RX0 22 "FerryDecks$Trace" "size" "I", Cond.fieldLink RX0 26 "FerryDecks$Bodies" "failure" "I", Cond.methodLink RX4 73 yX0_answer, Cond.instanceMethod yX0_answer, Cond.selects RX0 yX0_answer yX0_answer, Cond.code yX0_answer cX0_answer 4 (some .int), Cond.fieldLink RX0 29 "FerryDecks$Vehicle" "kind" "I", Cond.methodLink RX0 34 yX0_start, Cond.instanceMethod yX0_start, Cond.selects RX0 yX0_start yX0_start, Cond.code yX0_start cX0_start 7 (some .int), Cond.static yX4_ownerOf, Cond.code yX4_ownerOf cX4_ownerOf 2 (some .int), Cond.fieldLink RX4 146 "FerryDecks" "OWNERS" "[I", Cond.methodLink RX0 42 yX0_failed, Cond.instanceMethod yX0_failed, Cond.selects RX0 yX0_failed yX0_failed]
def wsX4_board_r3 : List Cond := [Cond.code yX0_failed cX0_failed 1 (some .boolean), Cond.methodLink RX0 46 yX2_write, Cond.instanceMethod yX2_write, Cond.selects RX2 yX2_write yX2_write, Cond.initialized RX2, Cond.code yX2_write cX2_write 2 none, Cond.fieldLink RX2 15 "FerryDecks$Trace" "size" "I", Cond.fieldLink RX2 9 "FerryDecks$Trace" "entries" "[I", Cond.methodLink RX0 50 yX0_lengthBody, Cond.instanceMethod yX0_lengthBody, Cond.selects RX0 yX0_lengthBody yX0_lengthBody, Cond.methodLink RX0 54 yX0_feeBody, Cond.instanceMethod yX0_feeBody, Cond.selects RX0 yX0_feeBody yX0_feeBody, Cond.methodLink RX0 58 yX0_riskBody, Cond.instanceMethod yX0_riskBody, Cond.selects RX0 yX0_riskBody yX0_riskBody, Cond.methodLink RX0 61 yX0_lashBody, Cond.instanceMethod yX0_lashBody, Cond.selects RX0 yX0_lashBody yX0_lashBody, Cond.methodLink RX0 64 yX0_markBody, Cond.instanceMethod yX0_markBody, Cond.selects RX0 yX0_markBody yX0_markBody, Cond.methodLink RX0 67 yX0_pullBody]
def wsX4_board_r4 : List Cond := [Cond.instanceMethod yX0_pullBody, Cond.selects RX0 yX0_pullBody yX0_pullBody, Cond.methodLink RX0 70 yX0_hookBody, Cond.instanceMethod yX0_hookBody, Cond.selects RX0 yX0_hookBody yX0_hookBody, Cond.code yX0_askAbove cX0_askAbove 6 (some .int), Cond.code yX0_askVehicle cX0_askVehicle 5 (some .int), Cond.code yX0_feeBody cX0_feeBody 6 (some .int), Cond.fieldLink RX0 9 "FerryDecks$Bodies" "terms" "[I", Cond.methodLink RX0 84 Lib.Math.max.name, Cond.static Lib.Math.max.name, Cond.initialized "java/lang/Math", Cond.code Lib.Math.max.name Lib.Math.max.code 2 (some .int), Cond.methodLink RX0 81 yX0_askAbove, Cond.instanceMethod yX0_askAbove, Cond.selects RX0 yX0_askAbove yX0_askAbove, Cond.methodLink RX0 89 yX0_askVehicle, Cond.instanceMethod yX0_askVehicle, Cond.selects RX0 yX0_askVehicle yX0_askVehicle, Cond.code yX0_hookBody cX0_hookBody 4 (some .int), Cond.fieldLink RX0 96 "FerryDecks$Vehicle" "load" "I", Cond.code yX0_lashBody cX0_lashBody 5 (some .int), Cond.fieldLink RX0 103 "FerryDecks$Vehicle" "chains" "I", Cond.methodLink RX0 92 yX0_fail]
def wsX4_board_r5 : List Cond := [Cond.instanceMethod yX0_fail, Cond.selects RX0 yX0_fail yX0_fail, Cond.code yX0_fail cX0_fail 2 (some .int), Cond.methodLink RX0 106 yX0_lashMixed, Cond.instanceMethod yX0_lashMixed, Cond.selects RX0 yX0_lashMixed yX0_lashMixed, Cond.code yX0_lashMixed cX0_lashMixed 5 (some .int), Cond.methodLink RX0 99 yX0_takes, Cond.instanceMethod yX0_takes, Cond.selects RX0 yX0_takes yX0_takes, Cond.code yX0_takes cX0_takes 2 (some .boolean), Cond.code yX0_lengthBody cX0_lengthBody 5 (some .int), Cond.fieldLink RX0 80 "FerryDecks$Vehicle" "size" "I", Cond.code yX0_markBody cX0_markBody 5 (some .int), Cond.code yX0_pullBody cX0_pullBody 6 (some .int), Cond.code yX0_riskBody cX0_riskBody 6 (some .int), Cond.methodLink RX4 77 yX0_failed, Cond.methodLink RX4 83 yX4_endByFailure, Cond.instanceMethod yX4_endByFailure, Cond.selects RX4 yX4_endByFailure yX4_endByFailure, Cond.code yX4_endByFailure cX4_endByFailure 1 (some .int), Cond.fieldLink RX4 143 "FerryDecks" "failedActs" "I", Cond.fieldLink RX4 152 "FerryDecks$Bodies" "failure" "I", Cond.methodLink RX4 106 yX1_left]
def wsX4_board_r6 : List Cond := [Cond.instanceMethod yX1_left, Cond.selects RX1 yX1_left yX1_left, Cond.initialized RX1, Cond.code yX1_left cX1_left 1 (some .int), Cond.fieldLink RX1 7 "FerryDecks$Deck" "metres" "I", Cond.fieldLink RX1 13 "FerryDecks$Deck" "taken" "I", Cond.methodLink RX4 114 yX1_receive, Cond.instanceMethod yX1_receive, Cond.selects RX1 yX1_receive yX1_receive, Cond.code yX1_receive cX1_receive 2 none, Cond.fieldLink RX1 16 "FerryDecks$Deck" "vehiclesOn" "I"]
def wsX4_board : List Cond := .code yX4_board cX4_board 10 (some .int) :: ((wsX4_board_r1 ++ (wsX4_board_r2 ++ (wsX4_board_r3 ++ (wsX4_board_r4 ++ (wsX4_board_r5 ++ wsX4_board_r6))))) ++ wsX30 ++ wsX40 ++ wsX00 ++ wsX20 ++ wsX10)
def wsX4_leave_r1 : List Cond := [Cond.fieldLink RX4 100 "FerryDecks$Vehicle" "deckNumber" "I", Cond.fieldLink RX4 113 "FerryDecks$Vehicle" "metres" "I", Cond.methodLink RX4 55 yX4_vehicleAt, Cond.instanceMethod yX4_vehicleAt, Cond.selects RX4 yX4_vehicleAt yX4_vehicleAt, Cond.initialized RX4, Cond.code yX4_vehicleAt cX4_vehicleAt 2 (some (.object "FerryDecks$Vehicle")), Cond.fieldLink RX4 49 "FerryDecks" "vehicleCount" "I", Cond.fieldLink RX4 11 "FerryDecks" "vehicles" "[LFerryDecks$Vehicle;", Cond.methodLink RX4 29 yX4_within, Cond.static yX4_within, Cond.code yX4_within cX4_within 3 (some .boolean), Cond.methodLink RX4 37 yX4_deckAt, Cond.instanceMethod yX4_deckAt, Cond.selects RX4 yX4_deckAt yX4_deckAt, Cond.code yX4_deckAt cX4_deckAt 2 (some (.object "FerryDecks$Deck")), Cond.fieldLink RX4 17 "FerryDecks" "decks" "[LFerryDecks$Deck;", Cond.methodLink RX4 118 yX1_release, Cond.instanceMethod yX1_release, Cond.selects RX1 yX1_release yX1_release, Cond.initialized RX1, Cond.code yX1_release cX1_release 2 none, Cond.fieldLink RX1 13 "FerryDecks$Deck" "taken" "I", Cond.fieldLink RX1 16 "FerryDecks$Deck" "vehiclesOn" "I"]
def wsX4_leave_r2 : List Cond := [Cond.methodLink RX4 121 yX3_goAshore, Cond.instanceMethod yX3_goAshore, Cond.selects RX3 yX3_goAshore yX3_goAshore, Cond.initialized RX3, Cond.code yX3_goAshore cX3_goAshore 1 none, Cond.fieldLink RX3 24 "FerryDecks$Vehicle" "chains" "I", Cond.fieldLink RX3 21 "FerryDecks$Vehicle" "deckNumber" "I", Cond.fieldLink RX3 27 "FerryDecks$Vehicle" "metres" "I", Cond.methodLink RX4 106 yX1_left, Cond.instanceMethod yX1_left, Cond.selects RX1 yX1_left yX1_left, Cond.code yX1_left cX1_left 1 (some .int), Cond.fieldLink RX1 7 "FerryDecks$Deck" "metres" "I"]
def wsX4_leave : List Cond := .code yX4_leave cX4_leave 4 (some .int) :: ((wsX4_leave_r1 ++ wsX4_leave_r2) ++ wsX30 ++ wsX40 ++ wsX10)
def wsX4_risk : List Cond := .code yX4_risk cX4_risk 1 (some .int) :: ([.fieldLink RX4 103 "FerryDecks" "latestRisk" "I"] ++ wsX40)
def wsX4_pull_r1 : List Cond := [Cond.fieldLink RX4 64 "FerryDecks$Vehicle" "kind" "I", Cond.fieldLink RX4 25 "FerryDecks" "bodies" "LFerryDecks$Bodies;", Cond.fieldLink RX4 124 "FerryDecks" "latestPull" "I", Cond.methodLink RX4 55 yX4_vehicleAt, Cond.instanceMethod yX4_vehicleAt, Cond.selects RX4 yX4_vehicleAt yX4_vehicleAt, Cond.initialized RX4, Cond.code yX4_vehicleAt cX4_vehicleAt 2 (some (.object "FerryDecks$Vehicle")), Cond.fieldLink RX4 49 "FerryDecks" "vehicleCount" "I", Cond.fieldLink RX4 11 "FerryDecks" "vehicles" "[LFerryDecks$Vehicle;", Cond.methodLink RX4 29 yX4_within, Cond.static yX4_within, Cond.code yX4_within cX4_within 3 (some .boolean), Cond.methodLink RX4 61 yX4_beginAct, Cond.instanceMethod yX4_beginAct, Cond.selects RX4 yX4_beginAct yX4_beginAct, Cond.code yX4_beginAct cX4_beginAct 1 none, Cond.fieldLink RX4 140 "FerryDecks" "acts" "I", Cond.methodLink RX4 149 yX0_begin, Cond.instanceMethod yX0_begin, Cond.selects RX0 yX0_begin yX0_begin, Cond.initialized RX0, Cond.code yX0_begin cX0_begin 1 none, Cond.fieldLink RX0 18 "FerryDecks$Bodies" "written" "LFerryDecks$Trace;"]
def wsX4_pull_r2 : List Cond := [Cond.fieldLink RX0 22 "FerryDecks$Trace" "size" "I", Cond.fieldLink RX0 26 "FerryDecks$Bodies" "failure" "I", Cond.methodLink RX4 67 yX4_ownerOf, Cond.static yX4_ownerOf, Cond.code yX4_ownerOf cX4_ownerOf 2 (some .int), Cond.fieldLink RX4 146 "FerryDecks" "OWNERS" "[I", Cond.methodLink RX4 73 yX0_answer, Cond.instanceMethod yX0_answer, Cond.selects RX0 yX0_answer yX0_answer, Cond.code yX0_answer cX0_answer 4 (some .int), Cond.fieldLink RX0 29 "FerryDecks$Vehicle" "kind" "I", Cond.methodLink RX0 34 yX0_start, Cond.instanceMethod yX0_start, Cond.selects RX0 yX0_start yX0_start, Cond.code yX0_start cX0_start 7 (some .int), Cond.methodLink RX0 42 yX0_failed, Cond.instanceMethod yX0_failed, Cond.selects RX0 yX0_failed yX0_failed, Cond.code yX0_failed cX0_failed 1 (some .boolean), Cond.methodLink RX0 46 yX2_write, Cond.instanceMethod yX2_write, Cond.selects RX2 yX2_write yX2_write, Cond.initialized RX2, Cond.code yX2_write cX2_write 2 none]
def wsX4_pull_r3 : List Cond := [Cond.fieldLink RX2 15 "FerryDecks$Trace" "size" "I", Cond.fieldLink RX2 9 "FerryDecks$Trace" "entries" "[I", Cond.methodLink RX0 50 yX0_lengthBody, Cond.instanceMethod yX0_lengthBody, Cond.selects RX0 yX0_lengthBody yX0_lengthBody, Cond.methodLink RX0 54 yX0_feeBody, Cond.instanceMethod yX0_feeBody, Cond.selects RX0 yX0_feeBody yX0_feeBody, Cond.methodLink RX0 58 yX0_riskBody, Cond.instanceMethod yX0_riskBody, Cond.selects RX0 yX0_riskBody yX0_riskBody, Cond.methodLink RX0 61 yX0_lashBody, Cond.instanceMethod yX0_lashBody, Cond.selects RX0 yX0_lashBody yX0_lashBody, Cond.methodLink RX0 64 yX0_markBody, Cond.instanceMethod yX0_markBody, Cond.selects RX0 yX0_markBody yX0_markBody, Cond.methodLink RX0 67 yX0_pullBody, Cond.instanceMethod yX0_pullBody, Cond.selects RX0 yX0_pullBody yX0_pullBody, Cond.methodLink RX0 70 yX0_hookBody, Cond.instanceMethod yX0_hookBody, Cond.selects RX0 yX0_hookBody yX0_hookBody, Cond.code yX0_askAbove cX0_askAbove 6 (some .int)]
def wsX4_pull_r4 : List Cond := [Cond.code yX0_askVehicle cX0_askVehicle 5 (some .int), Cond.code yX0_feeBody cX0_feeBody 6 (some .int), Cond.fieldLink RX0 9 "FerryDecks$Bodies" "terms" "[I", Cond.methodLink RX0 84 Lib.Math.max.name, Cond.static Lib.Math.max.name, Cond.initialized "java/lang/Math", Cond.code Lib.Math.max.name Lib.Math.max.code 2 (some .int), Cond.methodLink RX0 81 yX0_askAbove, Cond.instanceMethod yX0_askAbove, Cond.selects RX0 yX0_askAbove yX0_askAbove, Cond.methodLink RX0 89 yX0_askVehicle, Cond.instanceMethod yX0_askVehicle, Cond.selects RX0 yX0_askVehicle yX0_askVehicle, Cond.code yX0_hookBody cX0_hookBody 4 (some .int), Cond.fieldLink RX0 96 "FerryDecks$Vehicle" "load" "I", Cond.code yX0_lashBody cX0_lashBody 5 (some .int), Cond.fieldLink RX0 103 "FerryDecks$Vehicle" "chains" "I", Cond.methodLink RX0 92 yX0_fail, Cond.instanceMethod yX0_fail, Cond.selects RX0 yX0_fail yX0_fail, Cond.code yX0_fail cX0_fail 2 (some .int), Cond.methodLink RX0 106 yX0_lashMixed, Cond.instanceMethod yX0_lashMixed, Cond.selects RX0 yX0_lashMixed yX0_lashMixed]
def wsX4_pull_r5 : List Cond := [Cond.code yX0_lashMixed cX0_lashMixed 5 (some .int), Cond.methodLink RX0 99 yX0_takes, Cond.instanceMethod yX0_takes, Cond.selects RX0 yX0_takes yX0_takes, Cond.code yX0_takes cX0_takes 2 (some .boolean), Cond.code yX0_lengthBody cX0_lengthBody 5 (some .int), Cond.fieldLink RX0 80 "FerryDecks$Vehicle" "size" "I", Cond.code yX0_markBody cX0_markBody 5 (some .int), Cond.code yX0_pullBody cX0_pullBody 6 (some .int), Cond.code yX0_riskBody cX0_riskBody 6 (some .int)]
def wsX4_pull : List Cond := .code yX4_pull cX4_pull 4 (some .int) :: ((wsX4_pull_r1 ++ (wsX4_pull_r2 ++ (wsX4_pull_r3 ++ (wsX4_pull_r4 ++ wsX4_pull_r5)))) ++ wsX30 ++ wsX40 ++ wsX00 ++ wsX20)
def wsX4_pulled : List Cond := .code yX4_pulled cX4_pulled 1 (some .int) :: ([.fieldLink RX4 124 "FerryDecks" "latestPull" "I"] ++ wsX40)
def wsX4_told : List Cond := .code yX4_told cX4_told 4 (some .long) :: ([.constantLong RX4 59 (-9223372036854775808), .fieldLink RX4 64 "FerryDecks$Vehicle" "kind" "I", .fieldLink RX4 127 "FerryDecks$Vehicle" "size" "I", .fieldLink RX4 130 "FerryDecks$Vehicle" "load" "I", .fieldLink RX4 133 "FerryDecks$Vehicle" "chains" "I", .fieldLink RX4 100 "FerryDecks$Vehicle" "deckNumber" "I", .fieldLink RX4 113 "FerryDecks$Vehicle" "metres" "I", .methodLink RX4 55 yX4_vehicleAt, .instanceMethod yX4_vehicleAt, .selects RX4 yX4_vehicleAt yX4_vehicleAt, .initialized RX4, .code yX4_vehicleAt cX4_vehicleAt 2 (some (.object "FerryDecks$Vehicle")), .fieldLink RX4 49 "FerryDecks" "vehicleCount" "I", .fieldLink RX4 11 "FerryDecks" "vehicles" "[LFerryDecks$Vehicle;", .methodLink RX4 29 yX4_within, .static yX4_within, .code yX4_within cX4_within 3 (some .boolean)] ++ wsX30 ++ wsX40)
def wsX4_on : List Cond := .code yX4_on cX4_on 4 (some .int) :: ([.fieldLink RX4 45 "FerryDecks$Deck" "metres" "I", .fieldLink RX4 136 "FerryDecks$Deck" "vehiclesOn" "I", .methodLink RX4 37 yX4_deckAt, .instanceMethod yX4_deckAt, .selects RX4 yX4_deckAt yX4_deckAt, .initialized RX4, .code yX4_deckAt cX4_deckAt 2 (some (.object "FerryDecks$Deck")), .fieldLink RX4 17 "FerryDecks" "decks" "[LFerryDecks$Deck;", .methodLink RX4 29 yX4_within, .static yX4_within, .code yX4_within cX4_within 3 (some .boolean), .methodLink RX4 106 yX1_left, .instanceMethod yX1_left, .selects RX1 yX1_left yX1_left, .initialized RX1, .code yX1_left cX1_left 1 (some .int), .fieldLink RX1 7 "FerryDecks$Deck" "metres" "I", .fieldLink RX1 13 "FerryDecks$Deck" "taken" "I"] ++ wsX10 ++ wsX40)
def wsX4_till : List Cond := .code yX4_till cX4_till 1 (some .long) :: ([.fieldLink RX4 109 "FerryDecks" "theTill" "J"] ++ wsX40)
def wsX4_count : List Cond := .code yX4_count cX4_count 2 (some .int) :: ([.fieldLink RX4 49 "FerryDecks" "vehicleCount" "I", .fieldLink RX4 25 "FerryDecks" "bodies" "LFerryDecks$Bodies;", .fieldLink RX4 87 "FerryDecks$Bodies" "written" "LFerryDecks$Trace;", .fieldLink RX4 139 "FerryDecks$Trace" "size" "I", .fieldLink RX4 140 "FerryDecks" "acts" "I", .fieldLink RX4 143 "FerryDecks" "failedActs" "I"] ++ wsX40 ++ wsX00 ++ wsX20)
def wsX5_init : List Cond := .code yX5_init cX5_init 1 none :: ([.methodLink RX5 1 objectInit, .instanceMethod objectInit, .code objectInit ⟨#[0xb1]⟩ 1 none, .arrayClass .int, .fieldLink RX5 7 "FerryDecksModel" "terms" "[I", .fieldLink RX5 13 "FerryDecksModel" "kinds" "[I", .fieldLink RX5 16 "FerryDecksModel" "sizes" "[I", .fieldLink RX5 19 "FerryDecksModel" "loads" "[I", .fieldLink RX5 22 "FerryDecksModel" "chains" "[I", .fieldLink RX5 25 "FerryDecksModel" "decks" "[I", .fieldLink RX5 28 "FerryDecksModel" "taken" "[I", .fieldLink RX5 31 "FerryDecksModel" "metres" "[I", .fieldLink RX5 34 "FerryDecksModel" "trace" "[I"] ++ wsX50)
def wsX5_in : List Cond := .code yX5_in cX5_in 6 (some .boolean) :: ([])
def wsX5_isVehicle : List Cond := .code yX5_isVehicle cX5_isVehicle 2 (some .boolean) :: ([.fieldLink RX5 37 "FerryDecksModel" "vehicles" "I", .methodLink RX5 41 yX5_in, .static yX5_in, .initialized RX5, .code yX5_in cX5_in 6 (some .boolean)] ++ wsX50)
def wsX5_isDeck : List Cond := .code yX5_isDeck cX5_isDeck 1 (some .boolean) :: ([.constantLong RX5 45 (2), .methodLink RX5 41 yX5_in, .static yX5_in, .initialized RX5, .code yX5_in cX5_in 6 (some .boolean)])
def wsX5_term : List Cond := .code yX5_term cX5_term 4 (some .int) :: ([.constantLong RX5 47 (7), .constantLong RX5 49 (1000), .fieldLink RX5 7 "FerryDecksModel" "terms" "[I", .methodLink RX5 41 yX5_in, .static yX5_in, .initialized RX5, .code yX5_in cX5_in 6 (some .boolean)] ++ wsX50)
def wsX5_takenOn : List Cond := .code yX5_takenOn cX5_takenOn 4 (some .int) :: ([.fieldLink RX5 37 "FerryDecksModel" "vehicles" "I", .fieldLink RX5 25 "FerryDecksModel" "decks" "[I", .fieldLink RX5 28 "FerryDecksModel" "taken" "[I"] ++ wsX50)
def wsX5_deck : List Cond := .code yX5_deck cX5_deck 4 (some .int) :: ([.constantLong RX5 55 (10000), .fieldLink RX5 31 "FerryDecksModel" "metres" "[I", .methodLink RX5 51 yX5_isDeck, .static yX5_isDeck, .initialized RX5, .code yX5_isDeck cX5_isDeck 1 (some .boolean), .constantLong RX5 45 (2), .methodLink RX5 41 yX5_in, .static yX5_in, .code yX5_in cX5_in 6 (some .boolean), .methodLink RX5 57 yX5_takenOn, .instanceMethod yX5_takenOn, .selects RX5 yX5_takenOn yX5_takenOn, .code yX5_takenOn cX5_takenOn 4 (some .int), .fieldLink RX5 37 "FerryDecksModel" "vehicles" "I", .fieldLink RX5 25 "FerryDecksModel" "decks" "[I", .fieldLink RX5 28 "FerryDecksModel" "taken" "[I"] ++ wsX50)
def wsX5_vehicle : List Cond := .code yX5_vehicle cX5_vehicle 4 (some .int) :: ([.constantLong RX5 61 (9), .constantLong RX5 63 (100), .constantLong RX5 65 (100000), .fieldLink RX5 37 "FerryDecksModel" "vehicles" "I", .fieldLink RX5 13 "FerryDecksModel" "kinds" "[I", .fieldLink RX5 16 "FerryDecksModel" "sizes" "[I", .fieldLink RX5 19 "FerryDecksModel" "loads" "[I", .fieldLink RX5 25 "FerryDecksModel" "decks" "[I", .methodLink RX5 41 yX5_in, .static yX5_in, .initialized RX5, .code yX5_in cX5_in 6 (some .boolean)] ++ wsX50)
def wsX5_act : List Cond := .code yX5_act cX5_act 1 none :: ([.fieldLink RX5 67 "FerryDecksModel" "traced" "I", .fieldLink RX5 70 "FerryDecksModel" "acts" "I", .fieldLink RX5 73 "FerryDecksModel" "failure" "I"] ++ wsX50)
def wsX5_began : List Cond := .code yX5_began cX5_began 3 none :: ([.fieldLink RX5 67 "FerryDecksModel" "traced" "I", .fieldLink RX5 34 "FerryDecksModel" "trace" "[I"] ++ wsX50)
def wsX5_isCar : List Cond := .code yX5_isCar cX5_isCar 1 (some .boolean) :: ([])
def wsX5_length : List Cond := .code yX5_length cX5_length 5 (some .int) :: ([.fieldLink RX5 13 "FerryDecksModel" "kinds" "[I", .fieldLink RX5 16 "FerryDecksModel" "sizes" "[I", .fieldLink RX5 7 "FerryDecksModel" "terms" "[I", .methodLink RX5 76 yX5_isCar, .static yX5_isCar, .initialized RX5, .code yX5_isCar cX5_isCar 1 (some .boolean), .methodLink RX5 79 yX5_began, .instanceMethod yX5_began, .selects RX5 yX5_began yX5_began, .code yX5_began cX5_began 3 none, .fieldLink RX5 67 "FerryDecksModel" "traced" "I", .fieldLink RX5 34 "FerryDecksModel" "trace" "[I"] ++ wsX50)
def wsX5_plainFee : List Cond := .code yX5_plainFee cX5_plainFee 2 (some .int) :: ([.fieldLink RX5 7 "FerryDecksModel" "terms" "[I", .methodLink RX5 79 yX5_began, .instanceMethod yX5_began, .selects RX5 yX5_began yX5_began, .initialized RX5, .code yX5_began cX5_began 3 none, .fieldLink RX5 67 "FerryDecksModel" "traced" "I", .fieldLink RX5 34 "FerryDecksModel" "trace" "[I"] ++ wsX50)
def wsX5_carFee : List Cond := .code yX5_carFee cX5_carFee 3 (some .int) :: ([.fieldLink RX5 7 "FerryDecksModel" "terms" "[I", .methodLink RX5 79 yX5_began, .instanceMethod yX5_began, .selects RX5 yX5_began yX5_began, .initialized RX5, .code yX5_began cX5_began 3 none, .fieldLink RX5 67 "FerryDecksModel" "traced" "I", .fieldLink RX5 34 "FerryDecksModel" "trace" "[I", .methodLink RX5 83 yX5_plainFee, .instanceMethod yX5_plainFee, .selects RX5 yX5_plainFee yX5_plainFee, .code yX5_plainFee cX5_plainFee 2 (some .int)] ++ wsX50)
def wsX5_camperFee_r1 : List Cond := [Cond.methodLink RX5 79 yX5_began, Cond.instanceMethod yX5_began, Cond.selects RX5 yX5_began yX5_began, Cond.initialized RX5, Cond.code yX5_began cX5_began 3 none, Cond.fieldLink RX5 67 "FerryDecksModel" "traced" "I", Cond.fieldLink RX5 34 "FerryDecksModel" "trace" "[I", Cond.methodLink RX5 86 yX5_carFee, Cond.instanceMethod yX5_carFee, Cond.selects RX5 yX5_carFee yX5_carFee, Cond.code yX5_carFee cX5_carFee 3 (some .int), Cond.fieldLink RX5 7 "FerryDecksModel" "terms" "[I", Cond.methodLink RX5 83 yX5_plainFee, Cond.instanceMethod yX5_plainFee, Cond.selects RX5 yX5_plainFee yX5_plainFee, Cond.code yX5_plainFee cX5_plainFee 2 (some .int), Cond.methodLink RX5 89 yX5_length, Cond.instanceMethod yX5_length, Cond.selects RX5 yX5_length yX5_length, Cond.code yX5_length cX5_length 5 (some .int), Cond.fieldLink RX5 13 "FerryDecksModel" "kinds" "[I", Cond.fieldLink RX5 16 "FerryDecksModel" "sizes" "[I", Cond.methodLink RX5 76 yX5_isCar, Cond.static yX5_isCar]
def wsX5_camperFee_r2 : List Cond := [Cond.code yX5_isCar cX5_isCar 1 (some .boolean)]
def wsX5_camperFee : List Cond := .code yX5_camperFee cX5_camperFee 4 (some .int) :: ((wsX5_camperFee_r1 ++ wsX5_camperFee_r2) ++ wsX50)
def wsX5_tankerFee : List Cond := .code yX5_tankerFee cX5_tankerFee 2 (some .int) :: ([.methodLink RX5 79 yX5_began, .instanceMethod yX5_began, .selects RX5 yX5_began yX5_began, .initialized RX5, .code yX5_began cX5_began 3 none, .fieldLink RX5 67 "FerryDecksModel" "traced" "I", .fieldLink RX5 34 "FerryDecksModel" "trace" "[I", .methodLink RX5 83 yX5_plainFee, .instanceMethod yX5_plainFee, .selects RX5 yX5_plainFee yX5_plainFee, .code yX5_plainFee cX5_plainFee 2 (some .int), .fieldLink RX5 7 "FerryDecksModel" "terms" "[I"] ++ wsX50)
def wsX5_fails : List Cond := .code yX5_fails cX5_fails 2 (some .int) :: ([.fieldLink RX5 73 "FerryDecksModel" "failure" "I"] ++ wsX50)
def wsX5_plainRisk : List Cond := .code yX5_plainRisk cX5_plainRisk 2 (some .int) :: ([.methodLink RX5 79 yX5_began, .instanceMethod yX5_began, .selects RX5 yX5_began yX5_began, .initialized RX5, .code yX5_began cX5_began 3 none, .fieldLink RX5 67 "FerryDecksModel" "traced" "I", .fieldLink RX5 34 "FerryDecksModel" "trace" "[I", .methodLink RX5 102 yX5_fails, .instanceMethod yX5_fails, .selects RX5 yX5_fails yX5_fails, .code yX5_fails cX5_fails 2 (some .int), .fieldLink RX5 73 "FerryDecksModel" "failure" "I"] ++ wsX50)
def wsX5_taken : List Cond := .code yX5_taken cX5_taken 4 (some .int) :: ([.fieldLink RX5 73 "FerryDecksModel" "failure" "I"] ++ wsX50)
def wsX5_truckRisk : List Cond := .code yX5_truckRisk cX5_truckRisk 3 (some .int) :: ([.fieldLink RX5 19 "FerryDecksModel" "loads" "[I", .fieldLink RX5 7 "FerryDecksModel" "terms" "[I", .methodLink RX5 79 yX5_began, .instanceMethod yX5_began, .selects RX5 yX5_began yX5_began, .initialized RX5, .code yX5_began cX5_began 3 none, .fieldLink RX5 67 "FerryDecksModel" "traced" "I", .fieldLink RX5 34 "FerryDecksModel" "trace" "[I", .methodLink RX5 102 yX5_fails, .instanceMethod yX5_fails, .selects RX5 yX5_fails yX5_fails, .code yX5_fails cX5_fails 2 (some .int), .fieldLink RX5 73 "FerryDecksModel" "failure" "I", .methodLink RX5 105 yX5_plainRisk, .instanceMethod yX5_plainRisk, .selects RX5 yX5_plainRisk yX5_plainRisk, .code yX5_plainRisk cX5_plainRisk 2 (some .int)] ++ wsX50)
def wsX5_gasRisk : List Cond := .code yX5_gasRisk cX5_gasRisk 4 (some .int) :: ([.fieldLink RX5 73 "FerryDecksModel" "failure" "I", .methodLink RX5 79 yX5_began, .instanceMethod yX5_began, .selects RX5 yX5_began yX5_began, .initialized RX5, .code yX5_began cX5_began 3 none, .fieldLink RX5 67 "FerryDecksModel" "traced" "I", .fieldLink RX5 34 "FerryDecksModel" "trace" "[I", .methodLink RX5 108 yX5_truckRisk, .instanceMethod yX5_truckRisk, .selects RX5 yX5_truckRisk yX5_truckRisk, .code yX5_truckRisk cX5_truckRisk 3 (some .int), .fieldLink RX5 19 "FerryDecksModel" "loads" "[I", .fieldLink RX5 7 "FerryDecksModel" "terms" "[I", .methodLink RX5 102 yX5_fails, .instanceMethod yX5_fails, .selects RX5 yX5_fails yX5_fails, .code yX5_fails cX5_fails 2 (some .int), .methodLink RX5 105 yX5_plainRisk, .instanceMethod yX5_plainRisk, .selects RX5 yX5_plainRisk yX5_plainRisk, .code yX5_plainRisk cX5_plainRisk 2 (some .int)] ++ wsX50)
def wsX5_riskOf_r1 : List Cond := [Cond.fieldLink RX5 13 "FerryDecksModel" "kinds" "[I", Cond.methodLink RX5 105 yX5_plainRisk, Cond.instanceMethod yX5_plainRisk, Cond.selects RX5 yX5_plainRisk yX5_plainRisk, Cond.initialized RX5, Cond.code yX5_plainRisk cX5_plainRisk 2 (some .int), Cond.methodLink RX5 79 yX5_began, Cond.instanceMethod yX5_began, Cond.selects RX5 yX5_began yX5_began, Cond.code yX5_began cX5_began 3 none, Cond.fieldLink RX5 67 "FerryDecksModel" "traced" "I", Cond.fieldLink RX5 34 "FerryDecksModel" "trace" "[I", Cond.methodLink RX5 102 yX5_fails, Cond.instanceMethod yX5_fails, Cond.selects RX5 yX5_fails yX5_fails, Cond.code yX5_fails cX5_fails 2 (some .int), Cond.fieldLink RX5 73 "FerryDecksModel" "failure" "I", Cond.methodLink RX5 111 yX5_taken, Cond.instanceMethod yX5_taken, Cond.selects RX5 yX5_taken yX5_taken, Cond.code yX5_taken cX5_taken 4 (some .int), Cond.methodLink RX5 108 yX5_truckRisk, Cond.instanceMethod yX5_truckRisk, Cond.selects RX5 yX5_truckRisk yX5_truckRisk]
def wsX5_riskOf_r2 : List Cond := [Cond.code yX5_truckRisk cX5_truckRisk 3 (some .int), Cond.fieldLink RX5 19 "FerryDecksModel" "loads" "[I", Cond.fieldLink RX5 7 "FerryDecksModel" "terms" "[I", Cond.methodLink RX5 114 yX5_gasRisk, Cond.instanceMethod yX5_gasRisk, Cond.selects RX5 yX5_gasRisk yX5_gasRisk, Cond.code yX5_gasRisk cX5_gasRisk 4 (some .int)]
def wsX5_riskOf : List Cond := .code yX5_riskOf cX5_riskOf 4 (some .int) :: ((wsX5_riskOf_r1 ++ wsX5_riskOf_r2) ++ wsX50)
def wsX5_fee_r1 : List Cond := [Cond.fieldLink RX5 13 "FerryDecksModel" "kinds" "[I", Cond.methodLink RX5 86 yX5_carFee, Cond.instanceMethod yX5_carFee, Cond.selects RX5 yX5_carFee yX5_carFee, Cond.initialized RX5, Cond.code yX5_carFee cX5_carFee 3 (some .int), Cond.fieldLink RX5 7 "FerryDecksModel" "terms" "[I", Cond.methodLink RX5 79 yX5_began, Cond.instanceMethod yX5_began, Cond.selects RX5 yX5_began yX5_began, Cond.code yX5_began cX5_began 3 none, Cond.fieldLink RX5 67 "FerryDecksModel" "traced" "I", Cond.fieldLink RX5 34 "FerryDecksModel" "trace" "[I", Cond.methodLink RX5 83 yX5_plainFee, Cond.instanceMethod yX5_plainFee, Cond.selects RX5 yX5_plainFee yX5_plainFee, Cond.code yX5_plainFee cX5_plainFee 2 (some .int), Cond.methodLink RX5 92 yX5_camperFee, Cond.instanceMethod yX5_camperFee, Cond.selects RX5 yX5_camperFee yX5_camperFee, Cond.code yX5_camperFee cX5_camperFee 4 (some .int), Cond.methodLink RX5 89 yX5_length, Cond.instanceMethod yX5_length, Cond.selects RX5 yX5_length yX5_length]
def wsX5_fee_r2 : List Cond := [Cond.code yX5_length cX5_length 5 (some .int), Cond.fieldLink RX5 16 "FerryDecksModel" "sizes" "[I", Cond.methodLink RX5 76 yX5_isCar, Cond.static yX5_isCar, Cond.code yX5_isCar cX5_isCar 1 (some .boolean), Cond.methodLink RX5 96 yX5_tankerFee, Cond.instanceMethod yX5_tankerFee, Cond.selects RX5 yX5_tankerFee yX5_tankerFee, Cond.code yX5_tankerFee cX5_tankerFee 2 (some .int), Cond.methodLink RX5 99 yX5_riskOf, Cond.instanceMethod yX5_riskOf, Cond.selects RX5 yX5_riskOf yX5_riskOf, Cond.code yX5_riskOf cX5_riskOf 4 (some .int), Cond.methodLink RX5 105 yX5_plainRisk, Cond.instanceMethod yX5_plainRisk, Cond.selects RX5 yX5_plainRisk yX5_plainRisk, Cond.code yX5_plainRisk cX5_plainRisk 2 (some .int), Cond.methodLink RX5 102 yX5_fails, Cond.instanceMethod yX5_fails, Cond.selects RX5 yX5_fails yX5_fails, Cond.code yX5_fails cX5_fails 2 (some .int), Cond.fieldLink RX5 73 "FerryDecksModel" "failure" "I", Cond.methodLink RX5 111 yX5_taken, Cond.instanceMethod yX5_taken]
def wsX5_fee_r3 : List Cond := [Cond.selects RX5 yX5_taken yX5_taken, Cond.code yX5_taken cX5_taken 4 (some .int), Cond.methodLink RX5 108 yX5_truckRisk, Cond.instanceMethod yX5_truckRisk, Cond.selects RX5 yX5_truckRisk yX5_truckRisk, Cond.code yX5_truckRisk cX5_truckRisk 3 (some .int), Cond.fieldLink RX5 19 "FerryDecksModel" "loads" "[I", Cond.methodLink RX5 114 yX5_gasRisk, Cond.instanceMethod yX5_gasRisk, Cond.selects RX5 yX5_gasRisk yX5_gasRisk, Cond.code yX5_gasRisk cX5_gasRisk 4 (some .int)]
def wsX5_fee : List Cond := .code yX5_fee cX5_fee 4 (some .int) :: ((wsX5_fee_r1 ++ (wsX5_fee_r2 ++ wsX5_fee_r3)) ++ wsX50)
def wsX5_plainLash : List Cond := .code yX5_plainLash cX5_plainLash 3 (some .int) :: ([.fieldLink RX5 22 "FerryDecksModel" "chains" "[I", .methodLink RX5 79 yX5_began, .instanceMethod yX5_began, .selects RX5 yX5_began yX5_began, .initialized RX5, .code yX5_began cX5_began 3 none, .fieldLink RX5 67 "FerryDecksModel" "traced" "I", .fieldLink RX5 34 "FerryDecksModel" "trace" "[I"] ++ wsX50)
def wsX5_vanLash : List Cond := .code yX5_vanLash cX5_vanLash 3 (some .int) :: ([.methodLink RX5 79 yX5_began, .instanceMethod yX5_began, .selects RX5 yX5_began yX5_began, .initialized RX5, .code yX5_began cX5_began 3 none, .fieldLink RX5 67 "FerryDecksModel" "traced" "I", .fieldLink RX5 34 "FerryDecksModel" "trace" "[I", .methodLink RX5 117 yX5_plainLash, .instanceMethod yX5_plainLash, .selects RX5 yX5_plainLash yX5_plainLash, .code yX5_plainLash cX5_plainLash 3 (some .int), .fieldLink RX5 22 "FerryDecksModel" "chains" "[I"] ++ wsX50)
def wsX5_tankerLash : List Cond := .code yX5_tankerLash cX5_tankerLash 3 (some .int) :: ([.methodLink RX5 79 yX5_began, .instanceMethod yX5_began, .selects RX5 yX5_began yX5_began, .initialized RX5, .code yX5_began cX5_began 3 none, .fieldLink RX5 67 "FerryDecksModel" "traced" "I", .fieldLink RX5 34 "FerryDecksModel" "trace" "[I", .methodLink RX5 117 yX5_plainLash, .instanceMethod yX5_plainLash, .selects RX5 yX5_plainLash yX5_plainLash, .code yX5_plainLash cX5_plainLash 3 (some .int), .fieldLink RX5 22 "FerryDecksModel" "chains" "[I"] ++ wsX50)
def wsX5_gasLash : List Cond := .code yX5_gasLash cX5_gasLash 3 (some .int) :: ([.fieldLink RX5 22 "FerryDecksModel" "chains" "[I", .fieldLink RX5 7 "FerryDecksModel" "terms" "[I", .methodLink RX5 79 yX5_began, .instanceMethod yX5_began, .selects RX5 yX5_began yX5_began, .initialized RX5, .code yX5_began cX5_began 3 none, .fieldLink RX5 67 "FerryDecksModel" "traced" "I", .fieldLink RX5 34 "FerryDecksModel" "trace" "[I", .methodLink RX5 102 yX5_fails, .instanceMethod yX5_fails, .selects RX5 yX5_fails yX5_fails, .code yX5_fails cX5_fails 2 (some .int), .fieldLink RX5 73 "FerryDecksModel" "failure" "I", .methodLink RX5 120 yX5_tankerLash, .instanceMethod yX5_tankerLash, .selects RX5 yX5_tankerLash yX5_tankerLash, .code yX5_tankerLash cX5_tankerLash 3 (some .int), .methodLink RX5 117 yX5_plainLash, .instanceMethod yX5_plainLash, .selects RX5 yX5_plainLash yX5_plainLash, .code yX5_plainLash cX5_plainLash 3 (some .int)] ++ wsX50)
def wsX5_lash_r1 : List Cond := [Cond.fieldLink RX5 13 "FerryDecksModel" "kinds" "[I", Cond.fieldLink RX5 73 "FerryDecksModel" "failure" "I", Cond.fieldLink RX5 22 "FerryDecksModel" "chains" "[I", Cond.methodLink RX5 117 yX5_plainLash, Cond.instanceMethod yX5_plainLash, Cond.selects RX5 yX5_plainLash yX5_plainLash, Cond.initialized RX5, Cond.code yX5_plainLash cX5_plainLash 3 (some .int), Cond.methodLink RX5 79 yX5_began, Cond.instanceMethod yX5_began, Cond.selects RX5 yX5_began yX5_began, Cond.code yX5_began cX5_began 3 none, Cond.fieldLink RX5 67 "FerryDecksModel" "traced" "I", Cond.fieldLink RX5 34 "FerryDecksModel" "trace" "[I", Cond.methodLink RX5 123 yX5_vanLash, Cond.instanceMethod yX5_vanLash, Cond.selects RX5 yX5_vanLash yX5_vanLash, Cond.code yX5_vanLash cX5_vanLash 3 (some .int), Cond.methodLink RX5 120 yX5_tankerLash, Cond.instanceMethod yX5_tankerLash, Cond.selects RX5 yX5_tankerLash yX5_tankerLash, Cond.code yX5_tankerLash cX5_tankerLash 3 (some .int), Cond.methodLink RX5 126 yX5_gasLash, Cond.instanceMethod yX5_gasLash]
def wsX5_lash_r2 : List Cond := [Cond.selects RX5 yX5_gasLash yX5_gasLash, Cond.code yX5_gasLash cX5_gasLash 3 (some .int), Cond.fieldLink RX5 7 "FerryDecksModel" "terms" "[I", Cond.methodLink RX5 102 yX5_fails, Cond.instanceMethod yX5_fails, Cond.selects RX5 yX5_fails yX5_fails, Cond.code yX5_fails cX5_fails 2 (some .int)]
def wsX5_lash : List Cond := .code yX5_lash cX5_lash 4 (some .int) :: ((wsX5_lash_r1 ++ wsX5_lash_r2) ++ wsX50)
def wsX5_mark : List Cond := .code yX5_mark cX5_mark 5 (some .int) :: ([.fieldLink RX5 13 "FerryDecksModel" "kinds" "[I", .constantLong RX5 129 (3), .constantLong RX5 131 (5), .fieldLink RX5 16 "FerryDecksModel" "sizes" "[I", .fieldLink RX5 19 "FerryDecksModel" "loads" "[I", .methodLink RX5 79 yX5_began, .instanceMethod yX5_began, .selects RX5 yX5_began yX5_began, .initialized RX5, .code yX5_began cX5_began 3 none, .fieldLink RX5 67 "FerryDecksModel" "traced" "I", .fieldLink RX5 34 "FerryDecksModel" "trace" "[I", .methodLink RX5 41 yX5_in, .static yX5_in, .code yX5_in cX5_in 6 (some .boolean)] ++ wsX50)
def wsX5_isHooked : List Cond := .code yX5_isHooked cX5_isHooked 1 (some .boolean) :: ([.constantLong RX5 129 (3), .constantLong RX5 131 (5), .methodLink RX5 41 yX5_in, .static yX5_in, .initialized RX5, .code yX5_in cX5_in 6 (some .boolean)])
def wsX5_hook : List Cond := .code yX5_hook cX5_hook 3 (some .int) :: ([.fieldLink RX5 13 "FerryDecksModel" "kinds" "[I", .fieldLink RX5 7 "FerryDecksModel" "terms" "[I", .fieldLink RX5 19 "FerryDecksModel" "loads" "[I", .methodLink RX5 79 yX5_began, .instanceMethod yX5_began, .selects RX5 yX5_began yX5_began, .initialized RX5, .code yX5_began cX5_began 3 none, .fieldLink RX5 67 "FerryDecksModel" "traced" "I", .fieldLink RX5 34 "FerryDecksModel" "trace" "[I", .methodLink RX5 76 yX5_isCar, .static yX5_isCar, .code yX5_isCar cX5_isCar 1 (some .boolean)] ++ wsX50)
def wsX5_pulls_r1 : List Cond := [Cond.fieldLink RX5 13 "FerryDecksModel" "kinds" "[I", Cond.methodLink RX5 79 yX5_began, Cond.instanceMethod yX5_began, Cond.selects RX5 yX5_began yX5_began, Cond.initialized RX5, Cond.code yX5_began cX5_began 3 none, Cond.fieldLink RX5 67 "FerryDecksModel" "traced" "I", Cond.fieldLink RX5 34 "FerryDecksModel" "trace" "[I", Cond.methodLink RX5 133 yX5_hook, Cond.instanceMethod yX5_hook, Cond.selects RX5 yX5_hook yX5_hook, Cond.code yX5_hook cX5_hook 3 (some .int), Cond.fieldLink RX5 7 "FerryDecksModel" "terms" "[I", Cond.fieldLink RX5 19 "FerryDecksModel" "loads" "[I", Cond.methodLink RX5 76 yX5_isCar, Cond.static yX5_isCar, Cond.code yX5_isCar cX5_isCar 1 (some .boolean), Cond.methodLink RX5 136 yX5_mark, Cond.instanceMethod yX5_mark, Cond.selects RX5 yX5_mark yX5_mark, Cond.code yX5_mark cX5_mark 5 (some .int), Cond.constantLong RX5 129 (3), Cond.constantLong RX5 131 (5), Cond.fieldLink RX5 16 "FerryDecksModel" "sizes" "[I"]
def wsX5_pulls_r2 : List Cond := [Cond.methodLink RX5 41 yX5_in, Cond.static yX5_in, Cond.code yX5_in cX5_in 6 (some .boolean)]
def wsX5_pulls : List Cond := .code yX5_pulls cX5_pulls 5 (some .int) :: ((wsX5_pulls_r1 ++ wsX5_pulls_r2) ++ wsX50)
def wsX5_asked_r1 : List Cond := [Cond.methodLink RX5 89 yX5_length, Cond.instanceMethod yX5_length, Cond.selects RX5 yX5_length yX5_length, Cond.initialized RX5, Cond.code yX5_length cX5_length 5 (some .int), Cond.fieldLink RX5 13 "FerryDecksModel" "kinds" "[I", Cond.fieldLink RX5 16 "FerryDecksModel" "sizes" "[I", Cond.fieldLink RX5 7 "FerryDecksModel" "terms" "[I", Cond.methodLink RX5 76 yX5_isCar, Cond.static yX5_isCar, Cond.code yX5_isCar cX5_isCar 1 (some .boolean), Cond.methodLink RX5 79 yX5_began, Cond.instanceMethod yX5_began, Cond.selects RX5 yX5_began yX5_began, Cond.code yX5_began cX5_began 3 none, Cond.fieldLink RX5 67 "FerryDecksModel" "traced" "I", Cond.fieldLink RX5 34 "FerryDecksModel" "trace" "[I", Cond.methodLink RX5 139 yX5_fee, Cond.instanceMethod yX5_fee, Cond.selects RX5 yX5_fee yX5_fee, Cond.code yX5_fee cX5_fee 4 (some .int), Cond.methodLink RX5 86 yX5_carFee, Cond.instanceMethod yX5_carFee, Cond.selects RX5 yX5_carFee yX5_carFee]
def wsX5_asked_r2 : List Cond := [Cond.code yX5_carFee cX5_carFee 3 (some .int), Cond.methodLink RX5 83 yX5_plainFee, Cond.instanceMethod yX5_plainFee, Cond.selects RX5 yX5_plainFee yX5_plainFee, Cond.code yX5_plainFee cX5_plainFee 2 (some .int), Cond.methodLink RX5 92 yX5_camperFee, Cond.instanceMethod yX5_camperFee, Cond.selects RX5 yX5_camperFee yX5_camperFee, Cond.code yX5_camperFee cX5_camperFee 4 (some .int), Cond.methodLink RX5 96 yX5_tankerFee, Cond.instanceMethod yX5_tankerFee, Cond.selects RX5 yX5_tankerFee yX5_tankerFee, Cond.code yX5_tankerFee cX5_tankerFee 2 (some .int), Cond.methodLink RX5 99 yX5_riskOf, Cond.instanceMethod yX5_riskOf, Cond.selects RX5 yX5_riskOf yX5_riskOf, Cond.code yX5_riskOf cX5_riskOf 4 (some .int), Cond.methodLink RX5 105 yX5_plainRisk, Cond.instanceMethod yX5_plainRisk, Cond.selects RX5 yX5_plainRisk yX5_plainRisk, Cond.code yX5_plainRisk cX5_plainRisk 2 (some .int), Cond.methodLink RX5 102 yX5_fails, Cond.instanceMethod yX5_fails, Cond.selects RX5 yX5_fails yX5_fails]
def wsX5_asked_r3 : List Cond := [Cond.code yX5_fails cX5_fails 2 (some .int), Cond.fieldLink RX5 73 "FerryDecksModel" "failure" "I", Cond.methodLink RX5 111 yX5_taken, Cond.instanceMethod yX5_taken, Cond.selects RX5 yX5_taken yX5_taken, Cond.code yX5_taken cX5_taken 4 (some .int), Cond.methodLink RX5 108 yX5_truckRisk, Cond.instanceMethod yX5_truckRisk, Cond.selects RX5 yX5_truckRisk yX5_truckRisk, Cond.code yX5_truckRisk cX5_truckRisk 3 (some .int), Cond.fieldLink RX5 19 "FerryDecksModel" "loads" "[I", Cond.methodLink RX5 114 yX5_gasRisk, Cond.instanceMethod yX5_gasRisk, Cond.selects RX5 yX5_gasRisk yX5_gasRisk, Cond.code yX5_gasRisk cX5_gasRisk 4 (some .int), Cond.methodLink RX5 142 yX5_lash, Cond.instanceMethod yX5_lash, Cond.selects RX5 yX5_lash yX5_lash, Cond.code yX5_lash cX5_lash 4 (some .int), Cond.fieldLink RX5 22 "FerryDecksModel" "chains" "[I", Cond.methodLink RX5 117 yX5_plainLash, Cond.instanceMethod yX5_plainLash, Cond.selects RX5 yX5_plainLash yX5_plainLash, Cond.code yX5_plainLash cX5_plainLash 3 (some .int)]
def wsX5_asked_r4 : List Cond := [Cond.methodLink RX5 123 yX5_vanLash, Cond.instanceMethod yX5_vanLash, Cond.selects RX5 yX5_vanLash yX5_vanLash, Cond.code yX5_vanLash cX5_vanLash 3 (some .int), Cond.methodLink RX5 120 yX5_tankerLash, Cond.instanceMethod yX5_tankerLash, Cond.selects RX5 yX5_tankerLash yX5_tankerLash, Cond.code yX5_tankerLash cX5_tankerLash 3 (some .int), Cond.methodLink RX5 126 yX5_gasLash, Cond.instanceMethod yX5_gasLash, Cond.selects RX5 yX5_gasLash yX5_gasLash, Cond.code yX5_gasLash cX5_gasLash 3 (some .int), Cond.methodLink RX5 136 yX5_mark, Cond.instanceMethod yX5_mark, Cond.selects RX5 yX5_mark yX5_mark, Cond.code yX5_mark cX5_mark 5 (some .int), Cond.constantLong RX5 129 (3), Cond.constantLong RX5 131 (5), Cond.methodLink RX5 41 yX5_in, Cond.static yX5_in, Cond.code yX5_in cX5_in 6 (some .boolean), Cond.methodLink RX5 145 yX5_pulls, Cond.instanceMethod yX5_pulls, Cond.selects RX5 yX5_pulls yX5_pulls]
def wsX5_asked_r5 : List Cond := [Cond.code yX5_pulls cX5_pulls 5 (some .int), Cond.methodLink RX5 133 yX5_hook, Cond.instanceMethod yX5_hook, Cond.selects RX5 yX5_hook yX5_hook, Cond.code yX5_hook cX5_hook 3 (some .int)]
def wsX5_asked : List Cond := .code yX5_asked cX5_asked 4 (some .int) :: ((wsX5_asked_r1 ++ (wsX5_asked_r2 ++ (wsX5_asked_r3 ++ (wsX5_asked_r4 ++ wsX5_asked_r5)))) ++ wsX50)
def wsX5_ask_r1 : List Cond := [Cond.constantLong RX5 151 (6), Cond.constantLong RX5 153 (-9223372036854775808), Cond.fieldLink RX5 13 "FerryDecksModel" "kinds" "[I", Cond.constantLong RX5 161 (-9223372036854775807), Cond.fieldLink RX5 73 "FerryDecksModel" "failure" "I", Cond.fieldLink RX5 166 "FerryDecksModel" "failed" "I", Cond.constantLong RX5 169 (-9223372036854775798), Cond.methodLink RX5 148 yX5_isVehicle, Cond.instanceMethod yX5_isVehicle, Cond.selects RX5 yX5_isVehicle yX5_isVehicle, Cond.initialized RX5, Cond.code yX5_isVehicle cX5_isVehicle 2 (some .boolean), Cond.fieldLink RX5 37 "FerryDecksModel" "vehicles" "I", Cond.methodLink RX5 41 yX5_in, Cond.static yX5_in, Cond.code yX5_in cX5_in 6 (some .boolean), Cond.methodLink RX5 155 yX5_act, Cond.instanceMethod yX5_act, Cond.selects RX5 yX5_act yX5_act, Cond.code yX5_act cX5_act 1 none, Cond.fieldLink RX5 67 "FerryDecksModel" "traced" "I", Cond.fieldLink RX5 70 "FerryDecksModel" "acts" "I", Cond.methodLink RX5 158 yX5_isHooked, Cond.static yX5_isHooked]
def wsX5_ask_r2 : List Cond := [Cond.code yX5_isHooked cX5_isHooked 1 (some .boolean), Cond.constantLong RX5 129 (3), Cond.constantLong RX5 131 (5), Cond.methodLink RX5 163 yX5_asked, Cond.instanceMethod yX5_asked, Cond.selects RX5 yX5_asked yX5_asked, Cond.code yX5_asked cX5_asked 4 (some .int), Cond.methodLink RX5 89 yX5_length, Cond.instanceMethod yX5_length, Cond.selects RX5 yX5_length yX5_length, Cond.code yX5_length cX5_length 5 (some .int), Cond.fieldLink RX5 16 "FerryDecksModel" "sizes" "[I", Cond.fieldLink RX5 7 "FerryDecksModel" "terms" "[I", Cond.methodLink RX5 76 yX5_isCar, Cond.static yX5_isCar, Cond.code yX5_isCar cX5_isCar 1 (some .boolean), Cond.methodLink RX5 79 yX5_began, Cond.instanceMethod yX5_began, Cond.selects RX5 yX5_began yX5_began, Cond.code yX5_began cX5_began 3 none, Cond.fieldLink RX5 34 "FerryDecksModel" "trace" "[I", Cond.methodLink RX5 139 yX5_fee, Cond.instanceMethod yX5_fee, Cond.selects RX5 yX5_fee yX5_fee]
def wsX5_ask_r3 : List Cond := [Cond.code yX5_fee cX5_fee 4 (some .int), Cond.methodLink RX5 86 yX5_carFee, Cond.instanceMethod yX5_carFee, Cond.selects RX5 yX5_carFee yX5_carFee, Cond.code yX5_carFee cX5_carFee 3 (some .int), Cond.methodLink RX5 83 yX5_plainFee, Cond.instanceMethod yX5_plainFee, Cond.selects RX5 yX5_plainFee yX5_plainFee, Cond.code yX5_plainFee cX5_plainFee 2 (some .int), Cond.methodLink RX5 92 yX5_camperFee, Cond.instanceMethod yX5_camperFee, Cond.selects RX5 yX5_camperFee yX5_camperFee, Cond.code yX5_camperFee cX5_camperFee 4 (some .int), Cond.methodLink RX5 96 yX5_tankerFee, Cond.instanceMethod yX5_tankerFee, Cond.selects RX5 yX5_tankerFee yX5_tankerFee, Cond.code yX5_tankerFee cX5_tankerFee 2 (some .int), Cond.methodLink RX5 99 yX5_riskOf, Cond.instanceMethod yX5_riskOf, Cond.selects RX5 yX5_riskOf yX5_riskOf, Cond.code yX5_riskOf cX5_riskOf 4 (some .int), Cond.methodLink RX5 105 yX5_plainRisk, Cond.instanceMethod yX5_plainRisk, Cond.selects RX5 yX5_plainRisk yX5_plainRisk]
def wsX5_ask_r4 : List Cond := [Cond.code yX5_plainRisk cX5_plainRisk 2 (some .int), Cond.methodLink RX5 102 yX5_fails, Cond.instanceMethod yX5_fails, Cond.selects RX5 yX5_fails yX5_fails, Cond.code yX5_fails cX5_fails 2 (some .int), Cond.methodLink RX5 111 yX5_taken, Cond.instanceMethod yX5_taken, Cond.selects RX5 yX5_taken yX5_taken, Cond.code yX5_taken cX5_taken 4 (some .int), Cond.methodLink RX5 108 yX5_truckRisk, Cond.instanceMethod yX5_truckRisk, Cond.selects RX5 yX5_truckRisk yX5_truckRisk, Cond.code yX5_truckRisk cX5_truckRisk 3 (some .int), Cond.fieldLink RX5 19 "FerryDecksModel" "loads" "[I", Cond.methodLink RX5 114 yX5_gasRisk, Cond.instanceMethod yX5_gasRisk, Cond.selects RX5 yX5_gasRisk yX5_gasRisk, Cond.code yX5_gasRisk cX5_gasRisk 4 (some .int), Cond.methodLink RX5 142 yX5_lash, Cond.instanceMethod yX5_lash, Cond.selects RX5 yX5_lash yX5_lash, Cond.code yX5_lash cX5_lash 4 (some .int), Cond.fieldLink RX5 22 "FerryDecksModel" "chains" "[I", Cond.methodLink RX5 117 yX5_plainLash]
def wsX5_ask_r5 : List Cond := [Cond.instanceMethod yX5_plainLash, Cond.selects RX5 yX5_plainLash yX5_plainLash, Cond.code yX5_plainLash cX5_plainLash 3 (some .int), Cond.methodLink RX5 123 yX5_vanLash, Cond.instanceMethod yX5_vanLash, Cond.selects RX5 yX5_vanLash yX5_vanLash, Cond.code yX5_vanLash cX5_vanLash 3 (some .int), Cond.methodLink RX5 120 yX5_tankerLash, Cond.instanceMethod yX5_tankerLash, Cond.selects RX5 yX5_tankerLash yX5_tankerLash, Cond.code yX5_tankerLash cX5_tankerLash 3 (some .int), Cond.methodLink RX5 126 yX5_gasLash, Cond.instanceMethod yX5_gasLash, Cond.selects RX5 yX5_gasLash yX5_gasLash, Cond.code yX5_gasLash cX5_gasLash 3 (some .int), Cond.methodLink RX5 136 yX5_mark, Cond.instanceMethod yX5_mark, Cond.selects RX5 yX5_mark yX5_mark, Cond.code yX5_mark cX5_mark 5 (some .int), Cond.methodLink RX5 145 yX5_pulls, Cond.instanceMethod yX5_pulls, Cond.selects RX5 yX5_pulls yX5_pulls, Cond.code yX5_pulls cX5_pulls 5 (some .int), Cond.methodLink RX5 133 yX5_hook]
def wsX5_ask_r6 : List Cond := [Cond.instanceMethod yX5_hook, Cond.selects RX5 yX5_hook yX5_hook, Cond.code yX5_hook cX5_hook 3 (some .int)]
def wsX5_ask : List Cond := .code yX5_ask cX5_ask 5 (some .long) :: ((wsX5_ask_r1 ++ (wsX5_ask_r2 ++ (wsX5_ask_r3 ++ (wsX5_ask_r4 ++ (wsX5_ask_r5 ++ wsX5_ask_r6))))) ++ wsX50)
def wsX5_trace : List Cond := .code yX5_trace cX5_trace 2 (some .int) :: ([.fieldLink RX5 67 "FerryDecksModel" "traced" "I", .fieldLink RX5 34 "FerryDecksModel" "trace" "[I", .methodLink RX5 41 yX5_in, .static yX5_in, .initialized RX5, .code yX5_in cX5_in 6 (some .boolean)] ++ wsX50)
def wsX5_board_r1 : List Cond := [Cond.constantLong RX5 61 (9), Cond.fieldLink RX5 25 "FerryDecksModel" "decks" "[I", Cond.fieldLink RX5 73 "FerryDecksModel" "failure" "I", Cond.fieldLink RX5 166 "FerryDecksModel" "failed" "I", Cond.fieldLink RX5 171 "FerryDecksModel" "risk" "I", Cond.fieldLink RX5 31 "FerryDecksModel" "metres" "[I", Cond.fieldLink RX5 174 "FerryDecksModel" "till" "J", Cond.fieldLink RX5 28 "FerryDecksModel" "taken" "[I", Cond.methodLink RX5 148 yX5_isVehicle, Cond.instanceMethod yX5_isVehicle, Cond.selects RX5 yX5_isVehicle yX5_isVehicle, Cond.initialized RX5, Cond.code yX5_isVehicle cX5_isVehicle 2 (some .boolean), Cond.fieldLink RX5 37 "FerryDecksModel" "vehicles" "I", Cond.methodLink RX5 41 yX5_in, Cond.static yX5_in, Cond.code yX5_in cX5_in 6 (some .boolean), Cond.methodLink RX5 51 yX5_isDeck, Cond.static yX5_isDeck, Cond.code yX5_isDeck cX5_isDeck 1 (some .boolean), Cond.constantLong RX5 45 (2), Cond.methodLink RX5 155 yX5_act, Cond.instanceMethod yX5_act, Cond.selects RX5 yX5_act yX5_act]
def wsX5_board_r2 : List Cond := [Cond.code yX5_act cX5_act 1 none, Cond.fieldLink RX5 67 "FerryDecksModel" "traced" "I", Cond.fieldLink RX5 70 "FerryDecksModel" "acts" "I", Cond.methodLink RX5 99 yX5_riskOf, Cond.instanceMethod yX5_riskOf, Cond.selects RX5 yX5_riskOf yX5_riskOf, Cond.code yX5_riskOf cX5_riskOf 4 (some .int), Cond.fieldLink RX5 13 "FerryDecksModel" "kinds" "[I", Cond.methodLink RX5 105 yX5_plainRisk, Cond.instanceMethod yX5_plainRisk, Cond.selects RX5 yX5_plainRisk yX5_plainRisk, Cond.code yX5_plainRisk cX5_plainRisk 2 (some .int), Cond.methodLink RX5 79 yX5_began, Cond.instanceMethod yX5_began, Cond.selects RX5 yX5_began yX5_began, Cond.code yX5_began cX5_began 3 none, Cond.fieldLink RX5 34 "FerryDecksModel" "trace" "[I", Cond.methodLink RX5 102 yX5_fails, Cond.instanceMethod yX5_fails, Cond.selects RX5 yX5_fails yX5_fails, Cond.code yX5_fails cX5_fails 2 (some .int), Cond.methodLink RX5 111 yX5_taken, Cond.instanceMethod yX5_taken, Cond.selects RX5 yX5_taken yX5_taken]
def wsX5_board_r3 : List Cond := [Cond.code yX5_taken cX5_taken 4 (some .int), Cond.methodLink RX5 108 yX5_truckRisk, Cond.instanceMethod yX5_truckRisk, Cond.selects RX5 yX5_truckRisk yX5_truckRisk, Cond.code yX5_truckRisk cX5_truckRisk 3 (some .int), Cond.fieldLink RX5 19 "FerryDecksModel" "loads" "[I", Cond.fieldLink RX5 7 "FerryDecksModel" "terms" "[I", Cond.methodLink RX5 114 yX5_gasRisk, Cond.instanceMethod yX5_gasRisk, Cond.selects RX5 yX5_gasRisk yX5_gasRisk, Cond.code yX5_gasRisk cX5_gasRisk 4 (some .int), Cond.methodLink RX5 89 yX5_length, Cond.instanceMethod yX5_length, Cond.selects RX5 yX5_length yX5_length, Cond.code yX5_length cX5_length 5 (some .int), Cond.fieldLink RX5 16 "FerryDecksModel" "sizes" "[I", Cond.methodLink RX5 76 yX5_isCar, Cond.static yX5_isCar, Cond.code yX5_isCar cX5_isCar 1 (some .boolean), Cond.methodLink RX5 57 yX5_takenOn, Cond.instanceMethod yX5_takenOn, Cond.selects RX5 yX5_takenOn yX5_takenOn, Cond.code yX5_takenOn cX5_takenOn 4 (some .int), Cond.methodLink RX5 139 yX5_fee]
def wsX5_board_r4 : List Cond := [Cond.instanceMethod yX5_fee, Cond.selects RX5 yX5_fee yX5_fee, Cond.code yX5_fee cX5_fee 4 (some .int), Cond.methodLink RX5 86 yX5_carFee, Cond.instanceMethod yX5_carFee, Cond.selects RX5 yX5_carFee yX5_carFee, Cond.code yX5_carFee cX5_carFee 3 (some .int), Cond.methodLink RX5 83 yX5_plainFee, Cond.instanceMethod yX5_plainFee, Cond.selects RX5 yX5_plainFee yX5_plainFee, Cond.code yX5_plainFee cX5_plainFee 2 (some .int), Cond.methodLink RX5 92 yX5_camperFee, Cond.instanceMethod yX5_camperFee, Cond.selects RX5 yX5_camperFee yX5_camperFee, Cond.code yX5_camperFee cX5_camperFee 4 (some .int), Cond.methodLink RX5 96 yX5_tankerFee, Cond.instanceMethod yX5_tankerFee, Cond.selects RX5 yX5_tankerFee yX5_tankerFee, Cond.code yX5_tankerFee cX5_tankerFee 2 (some .int)]
def wsX5_board : List Cond := .code yX5_board cX5_board 8 (some .int) :: ((wsX5_board_r1 ++ (wsX5_board_r2 ++ (wsX5_board_r3 ++ wsX5_board_r4))) ++ wsX50)
def wsX5_leave : List Cond := .code yX5_leave cX5_leave 3 (some .int) :: ([.fieldLink RX5 25 "FerryDecksModel" "decks" "[I", .fieldLink RX5 28 "FerryDecksModel" "taken" "[I", .fieldLink RX5 22 "FerryDecksModel" "chains" "[I", .fieldLink RX5 31 "FerryDecksModel" "metres" "[I", .methodLink RX5 148 yX5_isVehicle, .instanceMethod yX5_isVehicle, .selects RX5 yX5_isVehicle yX5_isVehicle, .initialized RX5, .code yX5_isVehicle cX5_isVehicle 2 (some .boolean), .fieldLink RX5 37 "FerryDecksModel" "vehicles" "I", .methodLink RX5 41 yX5_in, .static yX5_in, .code yX5_in cX5_in 6 (some .boolean), .methodLink RX5 57 yX5_takenOn, .instanceMethod yX5_takenOn, .selects RX5 yX5_takenOn yX5_takenOn, .code yX5_takenOn cX5_takenOn 4 (some .int)] ++ wsX50)
def wsX5_risk : List Cond := .code yX5_risk cX5_risk 1 (some .int) :: ([.fieldLink RX5 171 "FerryDecksModel" "risk" "I"] ++ wsX50)
def wsX5_pull_r1 : List Cond := [Cond.fieldLink RX5 13 "FerryDecksModel" "kinds" "[I", Cond.fieldLink RX5 178 "FerryDecksModel" "pulled" "I", Cond.methodLink RX5 148 yX5_isVehicle, Cond.instanceMethod yX5_isVehicle, Cond.selects RX5 yX5_isVehicle yX5_isVehicle, Cond.initialized RX5, Cond.code yX5_isVehicle cX5_isVehicle 2 (some .boolean), Cond.fieldLink RX5 37 "FerryDecksModel" "vehicles" "I", Cond.methodLink RX5 41 yX5_in, Cond.static yX5_in, Cond.code yX5_in cX5_in 6 (some .boolean), Cond.methodLink RX5 155 yX5_act, Cond.instanceMethod yX5_act, Cond.selects RX5 yX5_act yX5_act, Cond.code yX5_act cX5_act 1 none, Cond.fieldLink RX5 67 "FerryDecksModel" "traced" "I", Cond.fieldLink RX5 70 "FerryDecksModel" "acts" "I", Cond.fieldLink RX5 73 "FerryDecksModel" "failure" "I", Cond.methodLink RX5 158 yX5_isHooked, Cond.static yX5_isHooked, Cond.code yX5_isHooked cX5_isHooked 1 (some .boolean), Cond.constantLong RX5 129 (3), Cond.constantLong RX5 131 (5), Cond.methodLink RX5 145 yX5_pulls]
def wsX5_pull_r2 : List Cond := [Cond.instanceMethod yX5_pulls, Cond.selects RX5 yX5_pulls yX5_pulls, Cond.code yX5_pulls cX5_pulls 5 (some .int), Cond.methodLink RX5 79 yX5_began, Cond.instanceMethod yX5_began, Cond.selects RX5 yX5_began yX5_began, Cond.code yX5_began cX5_began 3 none, Cond.fieldLink RX5 34 "FerryDecksModel" "trace" "[I", Cond.methodLink RX5 133 yX5_hook, Cond.instanceMethod yX5_hook, Cond.selects RX5 yX5_hook yX5_hook, Cond.code yX5_hook cX5_hook 3 (some .int), Cond.fieldLink RX5 7 "FerryDecksModel" "terms" "[I", Cond.fieldLink RX5 19 "FerryDecksModel" "loads" "[I", Cond.methodLink RX5 76 yX5_isCar, Cond.static yX5_isCar, Cond.code yX5_isCar cX5_isCar 1 (some .boolean), Cond.methodLink RX5 136 yX5_mark, Cond.instanceMethod yX5_mark, Cond.selects RX5 yX5_mark yX5_mark, Cond.code yX5_mark cX5_mark 5 (some .int), Cond.fieldLink RX5 16 "FerryDecksModel" "sizes" "[I"]
def wsX5_pull : List Cond := .code yX5_pull cX5_pull 3 (some .int) :: ((wsX5_pull_r1 ++ wsX5_pull_r2) ++ wsX50)
def wsX5_pulled : List Cond := .code yX5_pulled cX5_pulled 1 (some .int) :: ([.fieldLink RX5 178 "FerryDecksModel" "pulled" "I"] ++ wsX50)
def wsX5_told : List Cond := .code yX5_told cX5_told 3 (some .long) :: ([.constantLong RX5 131 (5), .constantLong RX5 153 (-9223372036854775808), .fieldLink RX5 13 "FerryDecksModel" "kinds" "[I", .fieldLink RX5 16 "FerryDecksModel" "sizes" "[I", .fieldLink RX5 19 "FerryDecksModel" "loads" "[I", .fieldLink RX5 22 "FerryDecksModel" "chains" "[I", .fieldLink RX5 25 "FerryDecksModel" "decks" "[I", .fieldLink RX5 28 "FerryDecksModel" "taken" "[I", .methodLink RX5 148 yX5_isVehicle, .instanceMethod yX5_isVehicle, .selects RX5 yX5_isVehicle yX5_isVehicle, .initialized RX5, .code yX5_isVehicle cX5_isVehicle 2 (some .boolean), .fieldLink RX5 37 "FerryDecksModel" "vehicles" "I", .methodLink RX5 41 yX5_in, .static yX5_in, .code yX5_in cX5_in 6 (some .boolean)] ++ wsX50)
def wsX5_on : List Cond := .code yX5_on cX5_on 5 (some .int) :: ([.constantLong RX5 45 (2), .fieldLink RX5 37 "FerryDecksModel" "vehicles" "I", .fieldLink RX5 25 "FerryDecksModel" "decks" "[I", .fieldLink RX5 31 "FerryDecksModel" "metres" "[I", .methodLink RX5 51 yX5_isDeck, .static yX5_isDeck, .initialized RX5, .code yX5_isDeck cX5_isDeck 1 (some .boolean), .methodLink RX5 41 yX5_in, .static yX5_in, .code yX5_in cX5_in 6 (some .boolean), .methodLink RX5 57 yX5_takenOn, .instanceMethod yX5_takenOn, .selects RX5 yX5_takenOn yX5_takenOn, .code yX5_takenOn cX5_takenOn 4 (some .int), .fieldLink RX5 28 "FerryDecksModel" "taken" "[I"] ++ wsX50)
def wsX5_till : List Cond := .code yX5_till cX5_till 1 (some .long) :: ([.fieldLink RX5 174 "FerryDecksModel" "till" "J"] ++ wsX50)
def wsX5_count : List Cond := .code yX5_count cX5_count 2 (some .int) :: ([.fieldLink RX5 37 "FerryDecksModel" "vehicles" "I", .fieldLink RX5 67 "FerryDecksModel" "traced" "I", .fieldLink RX5 70 "FerryDecksModel" "acts" "I", .fieldLink RX5 166 "FerryDecksModel" "failed" "I"] ++ wsX50)
def wsJ9_max_7cf53 : List Cond := .code yJ9_max_7cf53 cJ9_max_7cf53 2 (some .int) :: ([])
def wsL_law_r1 : List Cond := [Cond.classLink RL 7 RX4, Cond.instantiable RX4 9, Cond.initialized RX4, Cond.classLink RL 10 RX5, Cond.instantiable RX5 17, Cond.initialized RX5, Cond.methodLink RL 9 yX4_init, Cond.instanceMethod yX4_init, Cond.code yX4_init cX4_init 2 none, Cond.methodLink RX4 3 objectInit, Cond.instanceMethod objectInit, Cond.code objectInit ⟨#[0xb1]⟩ 1 none, Cond.classLink RX4 9 RX3, Cond.fieldLink RX4 11 "FerryDecks" "vehicles" "[LFerryDecks$Vehicle;", Cond.classLink RX4 15 RX1, Cond.fieldLink RX4 17 "FerryDecks" "decks" "[LFerryDecks$Deck;", Cond.instantiable RX1 3, Cond.initialized RX1, Cond.classLink RX4 22 RX0, Cond.instantiable RX0 3, Cond.initialized RX0, Cond.fieldLink RX4 25 "FerryDecks" "bodies" "LFerryDecks$Bodies;", Cond.instanceMethod yX1_init, Cond.code yX1_init cX1_init 1 none]
def wsL_law_r2 : List Cond := [Cond.methodLink RX1 1 objectInit, Cond.instanceMethod yX0_init, Cond.code yX0_init cX0_init 1 none, Cond.methodLink RX0 3 objectInit, Cond.arrayClass .int, Cond.fieldLink RX0 9 "FerryDecks$Bodies" "terms" "[I", Cond.classLink RX0 15 RX2, Cond.instantiable RX2 2, Cond.initialized RX2, Cond.fieldLink RX0 18 "FerryDecks$Bodies" "written" "LFerryDecks$Trace;", Cond.instanceMethod yX2_init, Cond.code yX2_init cX2_init 1 none, Cond.methodLink RX2 3 objectInit, Cond.fieldLink RX2 9 "FerryDecks$Trace" "entries" "[I", Cond.methodLink RL 12 yX5_init, Cond.instanceMethod yX5_init, Cond.code yX5_init cX5_init 1 none, Cond.methodLink RX5 1 objectInit, Cond.fieldLink RX5 7 "FerryDecksModel" "terms" "[I", Cond.fieldLink RX5 13 "FerryDecksModel" "kinds" "[I", Cond.fieldLink RX5 16 "FerryDecksModel" "sizes" "[I", Cond.fieldLink RX5 19 "FerryDecksModel" "loads" "[I", Cond.fieldLink RX5 22 "FerryDecksModel" "chains" "[I", Cond.fieldLink RX5 25 "FerryDecksModel" "decks" "[I"]
def wsL_law_r3 : List Cond := [Cond.fieldLink RX5 28 "FerryDecksModel" "taken" "[I", Cond.fieldLink RX5 31 "FerryDecksModel" "metres" "[I", Cond.fieldLink RX5 34 "FerryDecksModel" "trace" "[I", Cond.methodLink RL 13 yX4_term, Cond.instanceMethod yX4_term, Cond.selects RX4 yX4_term yX4_term, Cond.code yX4_term cX4_term 4 (some .int), Cond.fieldLink RX4 33 "FerryDecks$Bodies" "terms" "[I", Cond.methodLink RX4 29 yX4_within, Cond.static yX4_within, Cond.code yX4_within cX4_within 3 (some .boolean), Cond.methodLink RL 17 yX5_term, Cond.instanceMethod yX5_term, Cond.selects RX5 yX5_term yX5_term, Cond.code yX5_term cX5_term 4 (some .int), Cond.constantLong RX5 47 (7), Cond.constantLong RX5 49 (1000), Cond.methodLink RX5 41 yX5_in, Cond.static yX5_in, Cond.code yX5_in cX5_in 6 (some .boolean), Cond.methodLink RL 18 yX4_deck, Cond.instanceMethod yX4_deck, Cond.selects RX4 yX4_deck yX4_deck, Cond.code yX4_deck cX4_deck 5 (some .int)]
def wsL_law_r4 : List Cond := [Cond.fieldLink RX4 41 "FerryDecks$Deck" "taken" "I", Cond.fieldLink RX4 45 "FerryDecks$Deck" "metres" "I", Cond.methodLink RX4 37 yX4_deckAt, Cond.instanceMethod yX4_deckAt, Cond.selects RX4 yX4_deckAt yX4_deckAt, Cond.code yX4_deckAt cX4_deckAt 2 (some (.object "FerryDecks$Deck")), Cond.methodLink RL 21 yX5_deck, Cond.instanceMethod yX5_deck, Cond.selects RX5 yX5_deck yX5_deck, Cond.code yX5_deck cX5_deck 4 (some .int), Cond.constantLong RX5 55 (10000), Cond.methodLink RX5 51 yX5_isDeck, Cond.static yX5_isDeck, Cond.code yX5_isDeck cX5_isDeck 1 (some .boolean), Cond.constantLong RX5 45 (2), Cond.methodLink RX5 57 yX5_takenOn, Cond.instanceMethod yX5_takenOn, Cond.selects RX5 yX5_takenOn yX5_takenOn, Cond.code yX5_takenOn cX5_takenOn 4 (some .int), Cond.fieldLink RX5 37 "FerryDecksModel" "vehicles" "I", Cond.methodLink RL 22 yX4_vehicle, Cond.instanceMethod yX4_vehicle, Cond.selects RX4 yX4_vehicle yX4_vehicle, Cond.code yX4_vehicle cX4_vehicle 5 (some .int)]
def wsL_law_r5 : List Cond := [Cond.constant RX4 48 (100000), Cond.fieldLink RX4 49 "FerryDecks" "vehicleCount" "I", Cond.instantiable RX3 6, Cond.initialized RX3, Cond.methodLink RX4 52 yX3_init, Cond.instanceMethod yX3_init, Cond.code yX3_init cX3_init 4 none, Cond.methodLink RX3 3 objectInit, Cond.fieldLink RX3 9 "FerryDecks$Vehicle" "kind" "I", Cond.fieldLink RX3 15 "FerryDecks$Vehicle" "size" "I", Cond.fieldLink RX3 18 "FerryDecks$Vehicle" "load" "I", Cond.fieldLink RX3 21 "FerryDecks$Vehicle" "deckNumber" "I", Cond.methodLink RL 26 yX5_vehicle, Cond.instanceMethod yX5_vehicle, Cond.selects RX5 yX5_vehicle yX5_vehicle, Cond.code yX5_vehicle cX5_vehicle 4 (some .int), Cond.constantLong RX5 61 (9), Cond.constantLong RX5 63 (100), Cond.constantLong RX5 65 (100000), Cond.methodLink RL 27 yX4_ask, Cond.instanceMethod yX4_ask, Cond.selects RX4 yX4_ask yX4_ask, Cond.code yX4_ask cX4_ask 6 (some .long), Cond.constantLong RX4 59 (-9223372036854775808)]
def wsL_law_r6 : List Cond := [Cond.fieldLink RX4 64 "FerryDecks$Vehicle" "kind" "I", Cond.constantLong RX4 71 (-9223372036854775807), Cond.constantLong RX4 81 (-9223372036854775798), Cond.methodLink RX4 55 yX4_vehicleAt, Cond.instanceMethod yX4_vehicleAt, Cond.selects RX4 yX4_vehicleAt yX4_vehicleAt, Cond.code yX4_vehicleAt cX4_vehicleAt 2 (some (.object "FerryDecks$Vehicle")), Cond.methodLink RX4 61 yX4_beginAct, Cond.instanceMethod yX4_beginAct, Cond.selects RX4 yX4_beginAct yX4_beginAct, Cond.code yX4_beginAct cX4_beginAct 1 none, Cond.fieldLink RX4 140 "FerryDecks" "acts" "I", Cond.methodLink RX4 149 yX0_begin, Cond.instanceMethod yX0_begin, Cond.selects RX0 yX0_begin yX0_begin, Cond.code yX0_begin cX0_begin 1 none, Cond.fieldLink RX0 22 "FerryDecks$Trace" "size" "I", Cond.fieldLink RX0 26 "FerryDecks$Bodies" "failure" "I", Cond.methodLink RX4 67 yX4_ownerOf, Cond.static yX4_ownerOf, Cond.code yX4_ownerOf cX4_ownerOf 2 (some .int), Cond.fieldLink RX4 146 "FerryDecks" "OWNERS" "[I", Cond.methodLink RX4 73 yX0_answer, Cond.instanceMethod yX0_answer]
def wsL_law_r7 : List Cond := [Cond.selects RX0 yX0_answer yX0_answer, Cond.code yX0_answer cX0_answer 4 (some .int), Cond.fieldLink RX0 29 "FerryDecks$Vehicle" "kind" "I", Cond.methodLink RX0 34 yX0_start, Cond.instanceMethod yX0_start, Cond.selects RX0 yX0_start yX0_start, Cond.code yX0_start cX0_start 7 (some .int), Cond.methodLink RX0 42 yX0_failed, Cond.instanceMethod yX0_failed, Cond.selects RX0 yX0_failed yX0_failed, Cond.code yX0_failed cX0_failed 1 (some .boolean), Cond.methodLink RX0 46 yX2_write, Cond.instanceMethod yX2_write, Cond.selects RX2 yX2_write yX2_write, Cond.code yX2_write cX2_write 2 none, Cond.fieldLink RX2 15 "FerryDecks$Trace" "size" "I", Cond.methodLink RX0 50 yX0_lengthBody, Cond.instanceMethod yX0_lengthBody, Cond.selects RX0 yX0_lengthBody yX0_lengthBody, Cond.methodLink RX0 54 yX0_feeBody, Cond.instanceMethod yX0_feeBody, Cond.selects RX0 yX0_feeBody yX0_feeBody, Cond.methodLink RX0 58 yX0_riskBody, Cond.instanceMethod yX0_riskBody]
def wsL_law_r8 : List Cond := [Cond.selects RX0 yX0_riskBody yX0_riskBody, Cond.methodLink RX0 61 yX0_lashBody, Cond.instanceMethod yX0_lashBody, Cond.selects RX0 yX0_lashBody yX0_lashBody, Cond.methodLink RX0 64 yX0_markBody, Cond.instanceMethod yX0_markBody, Cond.selects RX0 yX0_markBody yX0_markBody, Cond.methodLink RX0 67 yX0_pullBody, Cond.instanceMethod yX0_pullBody, Cond.selects RX0 yX0_pullBody yX0_pullBody, Cond.methodLink RX0 70 yX0_hookBody, Cond.instanceMethod yX0_hookBody, Cond.selects RX0 yX0_hookBody yX0_hookBody, Cond.code yX0_askAbove cX0_askAbove 6 (some .int), Cond.code yX0_askVehicle cX0_askVehicle 5 (some .int), Cond.code yX0_feeBody cX0_feeBody 6 (some .int), Cond.methodLink RX0 84 Lib.Math.max.name, Cond.static Lib.Math.max.name, Cond.initialized "java/lang/Math", Cond.code Lib.Math.max.name Lib.Math.max.code 2 (some .int), Cond.methodLink RX0 81 yX0_askAbove, Cond.instanceMethod yX0_askAbove, Cond.selects RX0 yX0_askAbove yX0_askAbove, Cond.methodLink RX0 89 yX0_askVehicle]
def wsL_law_r9 : List Cond := [Cond.instanceMethod yX0_askVehicle, Cond.selects RX0 yX0_askVehicle yX0_askVehicle, Cond.code yX0_hookBody cX0_hookBody 4 (some .int), Cond.fieldLink RX0 96 "FerryDecks$Vehicle" "load" "I", Cond.code yX0_lashBody cX0_lashBody 5 (some .int), Cond.fieldLink RX0 103 "FerryDecks$Vehicle" "chains" "I", Cond.methodLink RX0 92 yX0_fail, Cond.instanceMethod yX0_fail, Cond.selects RX0 yX0_fail yX0_fail, Cond.code yX0_fail cX0_fail 2 (some .int), Cond.methodLink RX0 106 yX0_lashMixed, Cond.instanceMethod yX0_lashMixed, Cond.selects RX0 yX0_lashMixed yX0_lashMixed, Cond.code yX0_lashMixed cX0_lashMixed 5 (some .int), Cond.methodLink RX0 99 yX0_takes, Cond.instanceMethod yX0_takes, Cond.selects RX0 yX0_takes yX0_takes, Cond.code yX0_takes cX0_takes 2 (some .boolean), Cond.code yX0_lengthBody cX0_lengthBody 5 (some .int), Cond.fieldLink RX0 80 "FerryDecks$Vehicle" "size" "I", Cond.code yX0_markBody cX0_markBody 5 (some .int), Cond.code yX0_pullBody cX0_pullBody 6 (some .int), Cond.code yX0_riskBody cX0_riskBody 6 (some .int), Cond.methodLink RX4 77 yX0_failed]
def wsL_law_r10 : List Cond := [Cond.methodLink RX4 83 yX4_endByFailure, Cond.instanceMethod yX4_endByFailure, Cond.selects RX4 yX4_endByFailure yX4_endByFailure, Cond.code yX4_endByFailure cX4_endByFailure 1 (some .int), Cond.fieldLink RX4 143 "FerryDecks" "failedActs" "I", Cond.fieldLink RX4 152 "FerryDecks$Bodies" "failure" "I", Cond.methodLink RL 31 yX5_ask, Cond.instanceMethod yX5_ask, Cond.selects RX5 yX5_ask yX5_ask, Cond.code yX5_ask cX5_ask 5 (some .long), Cond.constantLong RX5 151 (6), Cond.constantLong RX5 153 (-9223372036854775808), Cond.constantLong RX5 161 (-9223372036854775807), Cond.fieldLink RX5 73 "FerryDecksModel" "failure" "I", Cond.fieldLink RX5 166 "FerryDecksModel" "failed" "I", Cond.constantLong RX5 169 (-9223372036854775798), Cond.methodLink RX5 148 yX5_isVehicle, Cond.instanceMethod yX5_isVehicle, Cond.selects RX5 yX5_isVehicle yX5_isVehicle, Cond.code yX5_isVehicle cX5_isVehicle 2 (some .boolean), Cond.methodLink RX5 155 yX5_act, Cond.instanceMethod yX5_act, Cond.selects RX5 yX5_act yX5_act, Cond.code yX5_act cX5_act 1 none]
def wsL_law_r11 : List Cond := [Cond.fieldLink RX5 67 "FerryDecksModel" "traced" "I", Cond.fieldLink RX5 70 "FerryDecksModel" "acts" "I", Cond.methodLink RX5 158 yX5_isHooked, Cond.static yX5_isHooked, Cond.code yX5_isHooked cX5_isHooked 1 (some .boolean), Cond.constantLong RX5 129 (3), Cond.constantLong RX5 131 (5), Cond.methodLink RX5 163 yX5_asked, Cond.instanceMethod yX5_asked, Cond.selects RX5 yX5_asked yX5_asked, Cond.code yX5_asked cX5_asked 4 (some .int), Cond.methodLink RX5 89 yX5_length, Cond.instanceMethod yX5_length, Cond.selects RX5 yX5_length yX5_length, Cond.code yX5_length cX5_length 5 (some .int), Cond.methodLink RX5 76 yX5_isCar, Cond.static yX5_isCar, Cond.code yX5_isCar cX5_isCar 1 (some .boolean), Cond.methodLink RX5 79 yX5_began, Cond.instanceMethod yX5_began, Cond.selects RX5 yX5_began yX5_began, Cond.code yX5_began cX5_began 3 none, Cond.methodLink RX5 139 yX5_fee, Cond.instanceMethod yX5_fee]
def wsL_law_r12 : List Cond := [Cond.selects RX5 yX5_fee yX5_fee, Cond.code yX5_fee cX5_fee 4 (some .int), Cond.methodLink RX5 86 yX5_carFee, Cond.instanceMethod yX5_carFee, Cond.selects RX5 yX5_carFee yX5_carFee, Cond.code yX5_carFee cX5_carFee 3 (some .int), Cond.methodLink RX5 83 yX5_plainFee, Cond.instanceMethod yX5_plainFee, Cond.selects RX5 yX5_plainFee yX5_plainFee, Cond.code yX5_plainFee cX5_plainFee 2 (some .int), Cond.methodLink RX5 92 yX5_camperFee, Cond.instanceMethod yX5_camperFee, Cond.selects RX5 yX5_camperFee yX5_camperFee, Cond.code yX5_camperFee cX5_camperFee 4 (some .int), Cond.methodLink RX5 96 yX5_tankerFee, Cond.instanceMethod yX5_tankerFee, Cond.selects RX5 yX5_tankerFee yX5_tankerFee, Cond.code yX5_tankerFee cX5_tankerFee 2 (some .int), Cond.methodLink RX5 99 yX5_riskOf, Cond.instanceMethod yX5_riskOf, Cond.selects RX5 yX5_riskOf yX5_riskOf, Cond.code yX5_riskOf cX5_riskOf 4 (some .int), Cond.methodLink RX5 105 yX5_plainRisk, Cond.instanceMethod yX5_plainRisk]
def wsL_law_r13 : List Cond := [Cond.selects RX5 yX5_plainRisk yX5_plainRisk, Cond.code yX5_plainRisk cX5_plainRisk 2 (some .int), Cond.methodLink RX5 102 yX5_fails, Cond.instanceMethod yX5_fails, Cond.selects RX5 yX5_fails yX5_fails, Cond.code yX5_fails cX5_fails 2 (some .int), Cond.methodLink RX5 111 yX5_taken, Cond.instanceMethod yX5_taken, Cond.selects RX5 yX5_taken yX5_taken, Cond.code yX5_taken cX5_taken 4 (some .int), Cond.methodLink RX5 108 yX5_truckRisk, Cond.instanceMethod yX5_truckRisk, Cond.selects RX5 yX5_truckRisk yX5_truckRisk, Cond.code yX5_truckRisk cX5_truckRisk 3 (some .int), Cond.methodLink RX5 114 yX5_gasRisk, Cond.instanceMethod yX5_gasRisk, Cond.selects RX5 yX5_gasRisk yX5_gasRisk, Cond.code yX5_gasRisk cX5_gasRisk 4 (some .int), Cond.methodLink RX5 142 yX5_lash, Cond.instanceMethod yX5_lash, Cond.selects RX5 yX5_lash yX5_lash, Cond.code yX5_lash cX5_lash 4 (some .int), Cond.methodLink RX5 117 yX5_plainLash, Cond.instanceMethod yX5_plainLash]
def wsL_law_r14 : List Cond := [Cond.selects RX5 yX5_plainLash yX5_plainLash, Cond.code yX5_plainLash cX5_plainLash 3 (some .int), Cond.methodLink RX5 123 yX5_vanLash, Cond.instanceMethod yX5_vanLash, Cond.selects RX5 yX5_vanLash yX5_vanLash, Cond.code yX5_vanLash cX5_vanLash 3 (some .int), Cond.methodLink RX5 120 yX5_tankerLash, Cond.instanceMethod yX5_tankerLash, Cond.selects RX5 yX5_tankerLash yX5_tankerLash, Cond.code yX5_tankerLash cX5_tankerLash 3 (some .int), Cond.methodLink RX5 126 yX5_gasLash, Cond.instanceMethod yX5_gasLash, Cond.selects RX5 yX5_gasLash yX5_gasLash, Cond.code yX5_gasLash cX5_gasLash 3 (some .int), Cond.methodLink RX5 136 yX5_mark, Cond.instanceMethod yX5_mark, Cond.selects RX5 yX5_mark yX5_mark, Cond.code yX5_mark cX5_mark 5 (some .int), Cond.methodLink RX5 145 yX5_pulls, Cond.instanceMethod yX5_pulls, Cond.selects RX5 yX5_pulls yX5_pulls, Cond.code yX5_pulls cX5_pulls 5 (some .int), Cond.methodLink RX5 133 yX5_hook, Cond.instanceMethod yX5_hook]
def wsL_law_r15 : List Cond := [Cond.selects RX5 yX5_hook yX5_hook, Cond.code yX5_hook cX5_hook 3 (some .int), Cond.methodLink RL 32 yX4_trace, Cond.instanceMethod yX4_trace, Cond.selects RX4 yX4_trace yX4_trace, Cond.code yX4_trace cX4_trace 2 (some .int), Cond.fieldLink RX4 87 "FerryDecks$Bodies" "written" "LFerryDecks$Trace;", Cond.fieldLink RX4 97 "FerryDecks$Trace" "entries" "[I", Cond.methodLink RX4 91 yX2_has, Cond.instanceMethod yX2_has, Cond.selects RX2 yX2_has yX2_has, Cond.code yX2_has cX2_has 2 (some .boolean), Cond.methodLink RL 36 yX5_trace, Cond.instanceMethod yX5_trace, Cond.selects RX5 yX5_trace yX5_trace, Cond.code yX5_trace cX5_trace 2 (some .int), Cond.methodLink RL 37 yX4_board, Cond.instanceMethod yX4_board, Cond.selects RX4 yX4_board yX4_board, Cond.code yX4_board cX4_board 10 (some .int), Cond.fieldLink RX4 100 "FerryDecks$Vehicle" "deckNumber" "I", Cond.fieldLink RX4 103 "FerryDecks" "latestRisk" "I", Cond.fieldLink RX4 109 "FerryDecks" "theTill" "J", Cond.fieldLink RX4 113 "FerryDecks$Vehicle" "metres" "I"]
def wsL_law_r16 : List Cond := [Cond.methodLink RX4 106 yX1_left, Cond.instanceMethod yX1_left, Cond.selects RX1 yX1_left yX1_left, Cond.code yX1_left cX1_left 1 (some .int), Cond.fieldLink RX1 7 "FerryDecks$Deck" "metres" "I", Cond.fieldLink RX1 13 "FerryDecks$Deck" "taken" "I", Cond.methodLink RX4 114 yX1_receive, Cond.instanceMethod yX1_receive, Cond.selects RX1 yX1_receive yX1_receive, Cond.code yX1_receive cX1_receive 2 none, Cond.fieldLink RX1 16 "FerryDecks$Deck" "vehiclesOn" "I", Cond.methodLink RL 41 yX5_board, Cond.instanceMethod yX5_board, Cond.selects RX5 yX5_board yX5_board, Cond.code yX5_board cX5_board 8 (some .int), Cond.fieldLink RX5 171 "FerryDecksModel" "risk" "I", Cond.fieldLink RX5 174 "FerryDecksModel" "till" "J", Cond.methodLink RL 42 yX4_leave, Cond.instanceMethod yX4_leave, Cond.selects RX4 yX4_leave yX4_leave, Cond.code yX4_leave cX4_leave 4 (some .int), Cond.methodLink RX4 118 yX1_release, Cond.instanceMethod yX1_release, Cond.selects RX1 yX1_release yX1_release]
def wsL_law_r17 : List Cond := [Cond.code yX1_release cX1_release 2 none, Cond.methodLink RX4 121 yX3_goAshore, Cond.instanceMethod yX3_goAshore, Cond.selects RX3 yX3_goAshore yX3_goAshore, Cond.code yX3_goAshore cX3_goAshore 1 none, Cond.fieldLink RX3 24 "FerryDecks$Vehicle" "chains" "I", Cond.fieldLink RX3 27 "FerryDecks$Vehicle" "metres" "I", Cond.methodLink RL 45 yX5_leave, Cond.instanceMethod yX5_leave, Cond.selects RX5 yX5_leave yX5_leave, Cond.code yX5_leave cX5_leave 3 (some .int), Cond.methodLink RL 46 yX4_risk, Cond.instanceMethod yX4_risk, Cond.selects RX4 yX4_risk yX4_risk, Cond.code yX4_risk cX4_risk 1 (some .int), Cond.methodLink RL 50 yX5_risk, Cond.instanceMethod yX5_risk, Cond.selects RX5 yX5_risk yX5_risk, Cond.code yX5_risk cX5_risk 1 (some .int), Cond.methodLink RL 51 yX4_pull, Cond.instanceMethod yX4_pull, Cond.selects RX4 yX4_pull yX4_pull, Cond.code yX4_pull cX4_pull 4 (some .int), Cond.fieldLink RX4 124 "FerryDecks" "latestPull" "I"]
def wsL_law_r18 : List Cond := [Cond.methodLink RL 54 yX5_pull, Cond.instanceMethod yX5_pull, Cond.selects RX5 yX5_pull yX5_pull, Cond.code yX5_pull cX5_pull 3 (some .int), Cond.fieldLink RX5 178 "FerryDecksModel" "pulled" "I", Cond.methodLink RL 55 yX4_pulled, Cond.instanceMethod yX4_pulled, Cond.selects RX4 yX4_pulled yX4_pulled, Cond.code yX4_pulled cX4_pulled 1 (some .int), Cond.methodLink RL 58 yX5_pulled, Cond.instanceMethod yX5_pulled, Cond.selects RX5 yX5_pulled yX5_pulled, Cond.code yX5_pulled cX5_pulled 1 (some .int), Cond.methodLink RL 59 yX4_told, Cond.instanceMethod yX4_told, Cond.selects RX4 yX4_told yX4_told, Cond.code yX4_told cX4_told 4 (some .long), Cond.fieldLink RX4 127 "FerryDecks$Vehicle" "size" "I", Cond.fieldLink RX4 130 "FerryDecks$Vehicle" "load" "I", Cond.fieldLink RX4 133 "FerryDecks$Vehicle" "chains" "I", Cond.methodLink RL 63 yX5_told, Cond.instanceMethod yX5_told, Cond.selects RX5 yX5_told yX5_told, Cond.code yX5_told cX5_told 3 (some .long)]
def wsL_law_r19 : List Cond := [Cond.methodLink RL 64 yX4_on, Cond.instanceMethod yX4_on, Cond.selects RX4 yX4_on yX4_on, Cond.code yX4_on cX4_on 4 (some .int), Cond.fieldLink RX4 136 "FerryDecks$Deck" "vehiclesOn" "I", Cond.methodLink RL 67 yX5_on, Cond.instanceMethod yX5_on, Cond.selects RX5 yX5_on yX5_on, Cond.code yX5_on cX5_on 5 (some .int), Cond.methodLink RL 68 yX4_till, Cond.instanceMethod yX4_till, Cond.selects RX4 yX4_till yX4_till, Cond.code yX4_till cX4_till 1 (some .long), Cond.methodLink RL 72 yX5_till, Cond.instanceMethod yX5_till, Cond.selects RX5 yX5_till yX5_till, Cond.code yX5_till cX5_till 1 (some .long), Cond.methodLink RL 73 yX4_count, Cond.instanceMethod yX4_count, Cond.selects RX4 yX4_count yX4_count, Cond.code yX4_count cX4_count 2 (some .int), Cond.fieldLink RX4 139 "FerryDecks$Trace" "size" "I", Cond.methodLink RL 76 yX5_count, Cond.instanceMethod yX5_count]
def wsL_law_r20 : List Cond := [Cond.selects RX5 yX5_count yX5_count, Cond.code yX5_count cX5_count 2 (some .int)]
def wsL_law : List Cond := (wsL_law_r1 ++ (wsL_law_r2 ++ (wsL_law_r3 ++ (wsL_law_r4 ++ (wsL_law_r5 ++ (wsL_law_r6 ++ (wsL_law_r7 ++ (wsL_law_r8 ++ (wsL_law_r9 ++ (wsL_law_r10 ++ (wsL_law_r11 ++ (wsL_law_r12 ++ (wsL_law_r13 ++ (wsL_law_r14 ++ (wsL_law_r15 ++ (wsL_law_r16 ++ (wsL_law_r17 ++ (wsL_law_r18 ++ (wsL_law_r19 ++ wsL_law_r20))))))))))))))))))) ++ wsX40 ++ wsX50 ++ wsX10 ++ wsX00 ++ wsX20 ++ wsX30 ++ ([] : List Cond)
theorem mem_by {big ws : List Cond} (ps : List Nat) (hp : ws = ps.filterMap (fun i => big[i]?)) : ∀ w ∈ ws, w ∈ big := fun w h => by
  rw [hp] at h
  obtain ⟨i, -, hi⟩ := List.mem_filterMap.mp h
  exact List.mem_of_getElem? hi
set_option maxRecDepth 20000 in
theorem wsL_law_r1_tb : ∀ w ∈ wsL_law_r1, w ∈ lw_tbl := mem_by [50, 51, 43, 359, 360, 47, 52, 53, 54, 55, 56, 57, 58, 116, 60, 118, 62, 44, 80, 81, 45, 119, 64, 65] (by decide +kernel)
set_option maxRecDepth 20000 in
theorem wsL_law_r2_tb : ∀ w ∈ wsL_law_r2, w ∈ lw_tbl := mem_by [66, 83, 84, 85, 102, 103, 86, 87, 46, 105, 89, 90, 91, 92, 361, 362, 363, 364, 365, 367, 368, 369, 370, 371] (by decide +kernel)
set_option maxRecDepth 20000 in
theorem wsL_law_r3_tb : ∀ w ∈ wsL_law_r3, w ∈ lw_tbl := mem_by [372, 373, 377, 144, 145, 146, 147, 104, 148, 149, 150, 417, 418, 419, 420, 421, 425, 422, 423, 424, 151, 152, 153, 154] (by decide +kernel)
set_option maxRecDepth 20000 in
theorem wsL_law_r4_tb : ∀ w ∈ wsL_law_r4, w ∈ lw_tbl := mem_by [70, 68, 155, 157, 0, 158, 426, 427, 428, 429, 434, 430, 431, 432, 433, 435, 437, 17, 438, 366, 159, 160, 161, 162] (by decide +kernel)
set_option maxRecDepth 20000 in
theorem wsL_law_r5_tb : ∀ w ∈ wsL_law_r5, w ∈ lw_tbl := mem_by [163, 117, 164, 48, 165, 166, 167, 168, 169, 172, 175, 181, 439, 440, 441, 442, 443, 444, 445, 198, 199, 200, 201, 206] (by decide +kernel)
set_option maxRecDepth 20000 in
theorem wsL_law_r6_tb : ∀ w ∈ wsL_law_r6, w ∈ lw_tbl := mem_by [171, 220, 293, 202, 204, 1, 205, 207, 209, 2, 210, 120, 211, 212, 213, 214, 95, 107, 215, 216, 217, 218, 221, 222] (by decide +kernel)
set_option maxRecDepth 20000 in
theorem wsL_law_r7_tb : ∀ w ∈ wsL_law_r7, w ∈ lw_tbl := mem_by [223, 224, 170, 225, 227, 3, 228, 230, 231, 232, 233, 234, 235, 236, 237, 94, 238, 240, 4, 252, 254, 6, 260, 262] (by decide +kernel)
set_option maxRecDepth 20000 in
theorem wsL_law_r8_tb : ∀ w ∈ wsL_law_r8, w ∈ lw_tbl := mem_by [8, 272, 274, 11, 280, 282, 13, 284, 286, 14, 288, 290, 15, 245, 259, 255, 249, 250, 49, 251, 242, 244, 5, 256] (by decide +kernel)
set_option maxRecDepth 20000 in
theorem wsL_law_r9_tb : ∀ w ∈ wsL_law_r9, w ∈ lw_tbl := mem_by [258, 7, 291, 176, 275, 180, 264, 266, 9, 267, 276, 278, 12, 279, 268, 270, 10, 271, 241, 173, 283, 287, 263, 292] (by decide +kernel)
set_option maxRecDepth 20000 in
theorem wsL_law_r10_tb : ∀ w ∈ wsL_law_r10, w ∈ lw_tbl := mem_by [294, 296, 16, 297, 121, 108, 446, 447, 448, 449, 454, 455, 465, 381, 380, 557, 450, 452, 18, 453, 456, 458, 19, 459] (by decide +kernel)
set_option maxRecDepth 20000 in
theorem wsL_law_r11_tb : ∀ w ∈ wsL_law_r11, w ∈ lw_tbl := mem_by [378, 379, 460, 461, 462, 463, 464, 466, 468, 20, 469, 470, 472, 21, 473, 474, 475, 476, 477, 479, 22, 480, 481, 483] (by decide +kernel)
set_option maxRecDepth 20000 in
theorem wsL_law_r12_tb : ∀ w ∈ wsL_law_r12, w ∈ lw_tbl := mem_by [23, 484, 485, 487, 24, 488, 489, 491, 25, 492, 493, 495, 26, 496, 497, 499, 27, 500, 501, 503, 28, 504, 505, 507] (by decide +kernel)
set_option maxRecDepth 20000 in
theorem wsL_law_r13_tb : ∀ w ∈ wsL_law_r13, w ∈ lw_tbl := mem_by [29, 508, 509, 511, 30, 512, 513, 515, 31, 516, 517, 519, 32, 520, 521, 523, 33, 524, 525, 527, 34, 528, 529, 531] (by decide +kernel)
set_option maxRecDepth 20000 in
theorem wsL_law_r14_tb : ∀ w ∈ wsL_law_r14, w ∈ lw_tbl := mem_by [35, 532, 533, 535, 36, 536, 537, 539, 37, 540, 541, 543, 38, 544, 545, 547, 39, 548, 549, 551, 40, 552, 553, 555] (by decide +kernel)
set_option maxRecDepth 20000 in
theorem wsL_law_r15_tb : ∀ w ∈ wsL_law_r15, w ∈ lw_tbl := mem_by [41, 556, 298, 299, 300, 301, 106, 93, 302, 303, 304, 305, 558, 559, 560, 561, 307, 308, 309, 310, 182, 122, 124, 184] (by decide +kernel)
set_option maxRecDepth 20000 in
theorem wsL_law_r16_tb : ∀ w ∈ wsL_law_r16, w ∈ lw_tbl := mem_by [311, 312, 313, 314, 67, 69, 315, 316, 317, 318, 71, 562, 563, 564, 565, 375, 374, 319, 320, 321, 322, 323, 324, 325] (by decide +kernel)
set_option maxRecDepth 20000 in
theorem wsL_law_r17_tb : ∀ w ∈ wsL_law_r17, w ∈ lw_tbl := mem_by [326, 327, 328, 329, 330, 178, 183, 566, 567, 568, 569, 331, 332, 333, 334, 570, 571, 572, 573, 335, 336, 337, 338, 123] (by decide +kernel)
set_option maxRecDepth 20000 in
theorem wsL_law_r18_tb : ∀ w ∈ wsL_law_r18, w ∈ lw_tbl := mem_by [574, 575, 576, 577, 376, 339, 340, 341, 342, 578, 579, 580, 581, 343, 344, 345, 346, 174, 177, 179, 582, 583, 584, 585] (by decide +kernel)
set_option maxRecDepth 20000 in
theorem wsL_law_r19_tb : ∀ w ∈ wsL_law_r19, w ∈ lw_tbl := mem_by [347, 348, 349, 350, 72, 586, 587, 588, 589, 351, 352, 353, 354, 590, 591, 592, 593, 355, 356, 357, 358, 96, 594, 595] (by decide +kernel)
set_option maxRecDepth 20000 in
theorem wsL_law_r20_tb : ∀ w ∈ wsL_law_r20, w ∈ lw_tbl := mem_by [596, 597] (by decide +kernel)
set_option maxRecDepth 20000 in
theorem wsX00_tb : ∀ w ∈ wsX00, w ∈ lw_tbl := mem_by [109, 111, 113] (by decide +kernel)
set_option maxRecDepth 20000 in
theorem wsX10_tb : ∀ w ∈ wsX10, w ∈ lw_tbl := mem_by [73, 75, 77] (by decide +kernel)
set_option maxRecDepth 20000 in
theorem wsX20_tb : ∀ w ∈ wsX20, w ∈ lw_tbl := mem_by [97, 99] (by decide +kernel)
set_option maxRecDepth 20000 in
theorem wsX30_tb : ∀ w ∈ wsX30, w ∈ lw_tbl := mem_by [185, 187, 189, 191, 193, 195] (by decide +kernel)
set_option maxRecDepth 20000 in
theorem wsX40_tb : ∀ w ∈ wsX40, w ∈ lw_tbl := mem_by [125, 127, 129, 131, 133, 135, 137, 139, 141] (by decide +kernel)
set_option maxRecDepth 20000 in
theorem wsX50_tb : ∀ w ∈ wsX50, w ∈ lw_tbl := mem_by [382, 384, 386, 388, 390, 392, 394, 396, 398, 400, 402, 404, 406, 408, 410, 412, 414] (by decide +kernel)
theorem wsL_law_in : ∀ w ∈ wsL_law, w ∈ lw_tbl := List.forall_mem_append.mpr ⟨List.forall_mem_append.mpr ⟨List.forall_mem_append.mpr ⟨List.forall_mem_append.mpr ⟨List.forall_mem_append.mpr ⟨List.forall_mem_append.mpr ⟨List.forall_mem_append.mpr ⟨List.forall_mem_append.mpr ⟨wsL_law_r1_tb, List.forall_mem_append.mpr ⟨wsL_law_r2_tb, List.forall_mem_append.mpr ⟨wsL_law_r3_tb, List.forall_mem_append.mpr ⟨wsL_law_r4_tb, List.forall_mem_append.mpr ⟨wsL_law_r5_tb, List.forall_mem_append.mpr ⟨wsL_law_r6_tb, List.forall_mem_append.mpr ⟨wsL_law_r7_tb, List.forall_mem_append.mpr ⟨wsL_law_r8_tb, List.forall_mem_append.mpr ⟨wsL_law_r9_tb, List.forall_mem_append.mpr ⟨wsL_law_r10_tb, List.forall_mem_append.mpr ⟨wsL_law_r11_tb, List.forall_mem_append.mpr ⟨wsL_law_r12_tb, List.forall_mem_append.mpr ⟨wsL_law_r13_tb, List.forall_mem_append.mpr ⟨wsL_law_r14_tb, List.forall_mem_append.mpr ⟨wsL_law_r15_tb, List.forall_mem_append.mpr ⟨wsL_law_r16_tb, List.forall_mem_append.mpr ⟨wsL_law_r17_tb, List.forall_mem_append.mpr ⟨wsL_law_r18_tb, List.forall_mem_append.mpr ⟨wsL_law_r19_tb, wsL_law_r20_tb⟩⟩⟩⟩⟩⟩⟩⟩⟩⟩⟩⟩⟩⟩⟩⟩⟩⟩⟩, wsX40_tb⟩, wsX50_tb⟩, wsX10_tb⟩, wsX00_tb⟩, wsX20_tb⟩, wsX30_tb⟩, fun _ h => absurd h List.not_mem_nil⟩
theorem inlX0 : ∀ w ∈ wsX00, w ∈ wsL_law := fun _ h => List.mem_append_left _ (List.mem_append_left _ (List.mem_append_left _ (List.mem_append_right _ h)))
theorem inX0 : ∀ w ∈ wsX00, w ∈ lw_tbl := fun w h => wsL_law_in w (inlX0 w h)
theorem inlX1 : ∀ w ∈ wsX10, w ∈ wsL_law := fun _ h => List.mem_append_left _ (List.mem_append_left _ (List.mem_append_left _ (List.mem_append_left _ (List.mem_append_right _ h))))
theorem inX1 : ∀ w ∈ wsX10, w ∈ lw_tbl := fun w h => wsL_law_in w (inlX1 w h)
theorem inlX2 : ∀ w ∈ wsX20, w ∈ wsL_law := fun _ h => List.mem_append_left _ (List.mem_append_left _ (List.mem_append_right _ h))
theorem inX2 : ∀ w ∈ wsX20, w ∈ lw_tbl := fun w h => wsL_law_in w (inlX2 w h)
theorem inlX3 : ∀ w ∈ wsX30, w ∈ wsL_law := fun _ h => List.mem_append_left _ (List.mem_append_right _ h)
theorem inX3 : ∀ w ∈ wsX30, w ∈ lw_tbl := fun w h => wsL_law_in w (inlX3 w h)
theorem inlX4 : ∀ w ∈ wsX40, w ∈ wsL_law := fun _ h => List.mem_append_left _ (List.mem_append_left _ (List.mem_append_left _ (List.mem_append_left _ (List.mem_append_left _ (List.mem_append_left _ (List.mem_append_right _ h))))))
theorem inX4 : ∀ w ∈ wsX40, w ∈ lw_tbl := fun w h => wsL_law_in w (inlX4 w h)
theorem inlX5 : ∀ w ∈ wsX50, w ∈ wsL_law := fun _ h => List.mem_append_left _ (List.mem_append_left _ (List.mem_append_left _ (List.mem_append_left _ (List.mem_append_left _ (List.mem_append_right _ h)))))
theorem inX5 : ∀ w ∈ wsX50, w ∈ lw_tbl := fun w h => wsL_law_in w (inlX5 w h)
theorem inJ9 : ∀ w ∈ wsJ90, w ∈ lw_tbl := by decide +kernel
abbrev vwCl : List vw_C := [(RX0, TX0, 3), (RX1, TX1, 3), (RX2, TX2, 2), (RX3, TX3, 6), (RX4, TX4, 9), (RX5, TX5, 17)]
end
section
set_option maxRecDepth 20000 in
theorem ggX0_init_X2_init : GoodIn wsX0_init wsX2_init := goodIn_r _ [11, 12, 2, 3, 4, 13, 17, 18] (by decide +kernel) (by decide +kernel)
set_option maxRecDepth 20000 in
theorem gX0_init_X2_init_n17 : GoodIn wsX0_init (wsX2_init) := ggX0_init_X2_init
theorem dX0_init_0 : decode cX0_init 0 = .ok (.aload_n 0, 1) := by decide +kernel
theorem dX0_init_1 : decode cX0_init 1 = .ok (.invokespecial 3, 3) := by decide +kernel
theorem dX0_init_4 : decode cX0_init 4 = .ok (.aload_n 0, 1) := by decide +kernel
theorem dX0_init_5 : decode cX0_init 5 = .ok (.bipush 8, 2) := by decide +kernel
theorem dX0_init_7 : decode cX0_init 7 = .ok (.newarray .int, 2) := by decide +kernel
theorem dX0_init_9 : decode cX0_init 9 = .ok (.putfield 9, 3) := by decide +kernel
theorem dX0_init_12 : decode cX0_init 12 = .ok (.aload_n 0, 1) := by decide +kernel
theorem dX0_init_13 : decode cX0_init 13 = .ok (.new 15, 3) := by decide +kernel
theorem dX0_init_16 : decode cX0_init 16 = .ok (.dup, 1) := by decide +kernel
theorem dX0_init_17 : decode cX0_init 17 = .ok (.invokespecial 17, 3) := by decide +kernel
theorem dX0_init_20 : decode cX0_init 20 = .ok (.putfield 18, 3) := by decide +kernel
theorem dX0_init_23 : decode cX0_init 23 = .ok (.return_, 1) := by decide +kernel
theorem dX0_begin_0 : decode cX0_begin 0 = .ok (.aload_n 0, 1) := by decide +kernel
theorem dX0_begin_1 : decode cX0_begin 1 = .ok (.getfield 18, 3) := by decide +kernel
theorem dX0_begin_4 : decode cX0_begin 4 = .ok (.iconst 0, 1) := by decide +kernel
theorem dX0_begin_5 : decode cX0_begin 5 = .ok (.putfield 22, 3) := by decide +kernel
theorem dX0_begin_8 : decode cX0_begin 8 = .ok (.aload_n 0, 1) := by decide +kernel
theorem dX0_begin_9 : decode cX0_begin 9 = .ok (.iconst 0, 1) := by decide +kernel
theorem dX0_begin_10 : decode cX0_begin 10 = .ok (.putfield 26, 3) := by decide +kernel
theorem dX0_begin_13 : decode cX0_begin 13 = .ok (.return_, 1) := by decide +kernel
theorem dX0_failed_0 : decode cX0_failed 0 = .ok (.aload_n 0, 1) := by decide +kernel
theorem dX0_failed_1 : decode cX0_failed 1 = .ok (.getfield 26, 3) := by decide +kernel
theorem dX0_failed_4 : decode cX0_failed 4 = .ok (.ifCond .eq 7, 3) := by decide +kernel
theorem dX0_failed_7 : decode cX0_failed 7 = .ok (.iconst 1, 1) := by decide +kernel
theorem dX0_failed_8 : decode cX0_failed 8 = .ok (.goto 4, 3) := by decide +kernel
theorem dX0_failed_11 : decode cX0_failed 11 = .ok (.iconst 0, 1) := by decide +kernel
theorem dX0_failed_12 : decode cX0_failed 12 = .ok (.ireturn, 1) := by decide +kernel
set_option maxRecDepth 20000 in
theorem ggX0_answer_X0_start : GoodIn wsX0_answer wsX0_start := goodIn_r _ [6, 7, 8, 9, 10, 11, 12, 13, 14, 15, 16, 17, 5, 18, 19, 20, 21, 22, 23, 24, 25, 26, 27, 28, 29, 30, 31, 32, 33, 34, 35, 36, 37, 38, 39, 40, 41, 42, 43, 44, 45, 46, 47, 48, 2, 3, 4, 49, 1, 50, 51, 52, 53, 54, 55, 56, 57, 58, 59, 60, 61, 62, 63, 64, 65, 66, 67, 68, 69, 70, 71, 72, 73, 74, 75, 76, 77, 78, 79, 80, 81, 82, 83, 84, 85, 86, 87, 88, 89, 90, 91, 92, 93] (by decide +kernel) (by decide +kernel)
set_option maxRecDepth 20000 in
theorem gX0_answer_X0_start : GoodIn wsX0_answer (wsV RX0 34 RX0 yX0_start wsX0_start) := goodIn_app (goodIn_of _ (by decide +kernel)) ggX0_answer_X0_start
theorem dX0_answer_0 : decode cX0_answer 0 = .ok (.aload_n 0, 1) := by decide +kernel
theorem dX0_answer_1 : decode cX0_answer 1 = .ok (.aload_n 1, 1) := by decide +kernel
theorem dX0_answer_2 : decode cX0_answer 2 = .ok (.aload_n 1, 1) := by decide +kernel
theorem dX0_answer_3 : decode cX0_answer 3 = .ok (.getfield 29, 3) := by decide +kernel
theorem dX0_answer_6 : decode cX0_answer 6 = .ok (.iload_n 2, 1) := by decide +kernel
theorem dX0_answer_7 : decode cX0_answer 7 = .ok (.iload_n 3, 1) := by decide +kernel
theorem dX0_answer_8 : decode cX0_answer 8 = .ok (.iconst 0, 1) := by decide +kernel
theorem dX0_answer_9 : decode cX0_answer 9 = .ok (.invokevirtual 34, 3) := by decide +kernel
theorem dX0_answer_12 : decode cX0_answer 12 = .ok (.ireturn, 1) := by decide +kernel
set_option maxRecDepth 20000 in
theorem ggX0_start_X4_ownerOf : GoodIn wsX0_start wsX4_ownerOf := goodIn_r _ [4, 5, 6, 7, 3, 8] (by decide +kernel) (by decide +kernel)
set_option maxRecDepth 20000 in
theorem gX0_start_X4_ownerOf_n38 : GoodIn wsX0_start (wsX4_ownerOf) := ggX0_start_X4_ownerOf
set_option maxRecDepth 20000 in
theorem ggX0_start_X0_failed : GoodIn wsX0_start wsX0_failed := goodIn_r _ [13, 14, 88, 89, 90] (by decide +kernel) (by decide +kernel)
set_option maxRecDepth 20000 in
theorem gX0_start_X0_failed : GoodIn wsX0_start (wsV RX0 42 RX0 yX0_failed wsX0_failed) := goodIn_app (goodIn_of _ (by decide +kernel)) ggX0_start_X0_failed
set_option maxRecDepth 20000 in
theorem ggX0_start_X2_write : GoodIn wsX0_start wsX2_write := goodIn_r _ [19, 20, 21, 91, 92] (by decide +kernel) (by decide +kernel)
set_option maxRecDepth 20000 in
theorem gX0_start_X2_write : GoodIn wsX0_start (wsV RX0 46 RX2 yX2_write wsX2_write) := goodIn_app (goodIn_of _ (by decide +kernel)) ggX0_start_X2_write
set_option maxRecDepth 20000 in
theorem ggX0_start_X0_lengthBody : GoodIn wsX0_start wsX0_lengthBody := goodIn_r _ [77, 78, 50, 51, 52, 53, 54, 55, 56, 57, 12, 43, 7, 3, 8, 44, 45, 46, 47, 48, 49, 58, 59, 60, 61, 62, 63, 64, 65, 66, 67, 68, 14, 69, 70, 71, 72, 73, 74, 75, 76, 79, 80, 81, 9, 10, 11, 13, 0, 1, 2, 4, 5, 6, 15, 16, 17, 18, 19, 20, 21, 22, 23, 24, 25, 26, 27, 28, 29, 30, 31, 32, 33, 34, 35, 36, 37, 38, 39, 40, 41, 42, 82, 83, 84, 85, 86, 87, 88, 89, 90, 91, 92] (by decide +kernel) (by decide +kernel)
set_option maxRecDepth 20000 in
theorem gX0_start_X0_lengthBody : GoodIn wsX0_start (wsV RX0 50 RX0 yX0_lengthBody wsX0_lengthBody) := goodIn_app (goodIn_of _ (by decide +kernel)) ggX0_start_X0_lengthBody
set_option maxRecDepth 20000 in
theorem ggX0_start_X0_feeBody : GoodIn wsX0_start wsX0_feeBody := goodIn_r _ [49, 50, 51, 52, 53, 54, 55, 56, 57, 12, 58, 59, 60, 43, 7, 3, 8, 44, 45, 46, 47, 48, 61, 62, 63, 64, 65, 66, 67, 68, 14, 69, 70, 71, 72, 73, 74, 75, 76, 77, 78, 79, 80, 81, 9, 10, 11, 13, 0, 1, 2, 4, 5, 6, 15, 16, 17, 18, 19, 20, 21, 22, 23, 24, 25, 26, 27, 28, 29, 30, 31, 32, 33, 34, 35, 36, 37, 38, 39, 40, 41, 42, 82, 83, 84, 85, 86, 87, 88, 89, 90, 91, 92] (by decide +kernel) (by decide +kernel)
set_option maxRecDepth 20000 in
theorem gX0_start_X0_feeBody : GoodIn wsX0_start (wsV RX0 54 RX0 yX0_feeBody wsX0_feeBody) := goodIn_app (goodIn_of _ (by decide +kernel)) ggX0_start_X0_feeBody
set_option maxRecDepth 20000 in
theorem ggX0_start_X0_riskBody : GoodIn wsX0_start wsX0_riskBody := goodIn_r _ [81, 62, 50, 65, 66, 67, 12, 68, 14, 55, 56, 57, 73, 74, 75, 76, 9, 10, 11, 13, 43, 7, 3, 8, 44, 45, 46, 47, 48, 49, 51, 52, 53, 54, 58, 59, 60, 61, 63, 64, 69, 70, 71, 72, 77, 78, 79, 80, 0, 1, 2, 4, 5, 6, 15, 16, 17, 18, 19, 20, 21, 22, 23, 24, 25, 26, 27, 28, 29, 30, 31, 32, 33, 34, 35, 36, 37, 38, 39, 40, 41, 42, 82, 83, 84, 85, 86, 87, 88, 89, 90, 91, 92] (by decide +kernel) (by decide +kernel)
set_option maxRecDepth 20000 in
theorem gX0_start_X0_riskBody : GoodIn wsX0_start (wsV RX0 58 RX0 yX0_riskBody wsX0_riskBody) := goodIn_app (goodIn_of _ (by decide +kernel)) ggX0_start_X0_riskBody
set_option maxRecDepth 20000 in
theorem ggX0_start_X0_lashBody : GoodIn wsX0_start wsX0_lashBody := goodIn_r _ [63, 64, 50, 55, 56, 57, 12, 65, 66, 67, 68, 14, 69, 70, 71, 43, 7, 3, 8, 44, 45, 46, 47, 48, 49, 51, 52, 53, 54, 58, 59, 60, 61, 62, 72, 73, 74, 75, 76, 77, 78, 79, 80, 81, 9, 10, 11, 13, 0, 1, 2, 4, 5, 6, 15, 16, 17, 18, 19, 20, 21, 22, 23, 24, 25, 26, 27, 28, 29, 30, 31, 32, 33, 34, 35, 36, 37, 38, 39, 40, 41, 42, 82, 83, 84, 85, 86, 87, 88, 89, 90, 91, 92] (by decide +kernel) (by decide +kernel)
set_option maxRecDepth 20000 in
theorem gX0_start_X0_lashBody : GoodIn wsX0_start (wsV RX0 61 RX0 yX0_lashBody wsX0_lashBody) := goodIn_app (goodIn_of _ (by decide +kernel)) ggX0_start_X0_lashBody
set_option maxRecDepth 20000 in
theorem ggX0_start_X0_markBody : GoodIn wsX0_start wsX0_markBody := goodIn_r _ [79, 78, 62, 55, 56, 57, 12, 43, 7, 3, 8, 44, 45, 46, 47, 48, 49, 50, 51, 52, 53, 54, 58, 59, 60, 61, 63, 64, 65, 66, 67, 68, 14, 69, 70, 71, 72, 73, 74, 75, 76, 77, 80, 81, 9, 10, 11, 13, 0, 1, 2, 4, 5, 6, 15, 16, 17, 18, 19, 20, 21, 22, 23, 24, 25, 26, 27, 28, 29, 30, 31, 32, 33, 34, 35, 36, 37, 38, 39, 40, 41, 42, 82, 83, 84, 85, 86, 87, 88, 89, 90, 91, 92] (by decide +kernel) (by decide +kernel)
set_option maxRecDepth 20000 in
theorem gX0_start_X0_markBody : GoodIn wsX0_start (wsV RX0 64 RX0 yX0_markBody wsX0_markBody) := goodIn_app (goodIn_of _ (by decide +kernel)) ggX0_start_X0_markBody
set_option maxRecDepth 20000 in
theorem ggX0_start_X0_pullBody : GoodIn wsX0_start wsX0_pullBody := goodIn_r _ [80, 55, 56, 57, 12, 58, 59, 60, 43, 7, 3, 8, 44, 45, 46, 47, 48, 49, 50, 51, 52, 53, 54, 61, 62, 63, 64, 65, 66, 67, 68, 14, 69, 70, 71, 72, 73, 74, 75, 76, 77, 78, 79, 81, 9, 10, 11, 13, 0, 1, 2, 4, 5, 6, 15, 16, 17, 18, 19, 20, 21, 22, 23, 24, 25, 26, 27, 28, 29, 30, 31, 32, 33, 34, 35, 36, 37, 38, 39, 40, 41, 42, 82, 83, 84, 85, 86, 87, 88, 89, 90, 91, 92] (by decide +kernel) (by decide +kernel)
set_option maxRecDepth 20000 in
theorem gX0_start_X0_pullBody : GoodIn wsX0_start (wsV RX0 67 RX0 yX0_pullBody wsX0_pullBody) := goodIn_app (goodIn_of _ (by decide +kernel)) ggX0_start_X0_pullBody
set_option maxRecDepth 20000 in
theorem ggX0_start_X0_hookBody : GoodIn wsX0_start wsX0_hookBody := goodIn_r _ [61, 50, 62, 55, 56, 57, 12, 43, 7, 3, 8, 44, 45, 46, 47, 48, 49, 51, 52, 53, 54, 58, 59, 60, 63, 64, 65, 66, 67, 68, 14, 69, 70, 71, 72, 73, 74, 75, 76, 77, 78, 79, 80, 81, 9, 10, 11, 13, 0, 1, 2, 4, 5, 6, 15, 16, 17, 18, 19, 20, 21, 22, 23, 24, 25, 26, 27, 28, 29, 30, 31, 32, 33, 34, 35, 36, 37, 38, 39, 40, 41, 42, 82, 83, 84, 85, 86, 87, 88, 89, 90, 91, 92] (by decide +kernel) (by decide +kernel)
set_option maxRecDepth 20000 in
theorem gX0_start_X0_hookBody : GoodIn wsX0_start (wsV RX0 70 RX0 yX0_hookBody wsX0_hookBody) := goodIn_app (goodIn_of _ (by decide +kernel)) ggX0_start_X0_hookBody
theorem dX0_start_0 : decode cX0_start 0 = .ok (.iload_n 3, 1) := by decide +kernel
theorem dX0_start_1 : decode cX0_start 1 = .ok (.iload_n 2, 1) := by decide +kernel
theorem dX0_start_2 : decode cX0_start 2 = .ok (.invokestatic 38, 3) := by decide +kernel
theorem dX0_start_5 : decode cX0_start 5 = .ok (.istore 6, 2) := by decide +kernel
theorem dX0_start_7 : decode cX0_start 7 = .ok (.aload_n 0, 1) := by decide +kernel
theorem dX0_start_8 : decode cX0_start 8 = .ok (.invokevirtual 42, 3) := by decide +kernel
theorem dX0_start_11 : decode cX0_start 11 = .ok (.ifCond .ne 16, 3) := by decide +kernel
theorem dX0_start_14 : decode cX0_start 14 = .ok (.iload 6, 2) := by decide +kernel
theorem dX0_start_16 : decode cX0_start 16 = .ok (.iconst (-1), 1) := by decide +kernel
theorem dX0_start_17 : decode cX0_start 17 = .ok (.if_icmp .eq 10, 3) := by decide +kernel
theorem dX0_start_20 : decode cX0_start 20 = .ok (.iload 5, 2) := by decide +kernel
theorem dX0_start_22 : decode cX0_start 22 = .ok (.bipush 20, 2) := by decide +kernel
theorem dX0_start_24 : decode cX0_start 24 = .ok (.if_icmp .le 5, 3) := by decide +kernel
theorem dX0_start_27 : decode cX0_start 27 = .ok (.iconst 0, 1) := by decide +kernel
theorem dX0_start_28 : decode cX0_start 28 = .ok (.ireturn, 1) := by decide +kernel
theorem dX0_start_29 : decode cX0_start 29 = .ok (.aload_n 0, 1) := by decide +kernel
theorem dX0_start_30 : decode cX0_start 30 = .ok (.getfield 18, 3) := by decide +kernel
theorem dX0_start_33 : decode cX0_start 33 = .ok (.bipush 10, 2) := by decide +kernel
theorem dX0_start_35 : decode cX0_start 35 = .ok (.iload 6, 2) := by decide +kernel
theorem dX0_start_37 : decode cX0_start 37 = .ok (.imul, 1) := by decide +kernel
theorem dX0_start_38 : decode cX0_start 38 = .ok (.iload_n 3, 1) := by decide +kernel
theorem dX0_start_39 : decode cX0_start 39 = .ok (.iadd, 1) := by decide +kernel
theorem dX0_start_40 : decode cX0_start 40 = .ok (.invokevirtual 46, 3) := by decide +kernel
theorem dX0_start_43 : decode cX0_start 43 = .ok (.iload_n 3, 1) := by decide +kernel
theorem dX0_start_44 : decode cX0_start 44 = .ok (.tableswitch 108 0 5 #[40, 50, 62, 74, 86, 96], 40) := by decide +kernel
theorem dX0_start_84 : decode cX0_start 84 = .ok (.aload_n 0, 1) := by decide +kernel
theorem dX0_start_85 : decode cX0_start 85 = .ok (.aload_n 1, 1) := by decide +kernel
theorem dX0_start_86 : decode cX0_start 86 = .ok (.iload 6, 2) := by decide +kernel
theorem dX0_start_88 : decode cX0_start 88 = .ok (.iload 5, 2) := by decide +kernel
theorem dX0_start_90 : decode cX0_start 90 = .ok (.invokevirtual 50, 3) := by decide +kernel
theorem dX0_start_93 : decode cX0_start 93 = .ok (.ireturn, 1) := by decide +kernel
theorem dX0_start_94 : decode cX0_start 94 = .ok (.aload_n 0, 1) := by decide +kernel
theorem dX0_start_95 : decode cX0_start 95 = .ok (.aload_n 1, 1) := by decide +kernel
theorem dX0_start_96 : decode cX0_start 96 = .ok (.iload 6, 2) := by decide +kernel
theorem dX0_start_98 : decode cX0_start 98 = .ok (.iload 4, 2) := by decide +kernel
theorem dX0_start_100 : decode cX0_start 100 = .ok (.iload 5, 2) := by decide +kernel
theorem dX0_start_102 : decode cX0_start 102 = .ok (.invokevirtual 54, 3) := by decide +kernel
theorem dX0_start_105 : decode cX0_start 105 = .ok (.ireturn, 1) := by decide +kernel
theorem dX0_start_106 : decode cX0_start 106 = .ok (.aload_n 0, 1) := by decide +kernel
theorem dX0_start_107 : decode cX0_start 107 = .ok (.aload_n 1, 1) := by decide +kernel
theorem dX0_start_108 : decode cX0_start 108 = .ok (.iload 6, 2) := by decide +kernel
theorem dX0_start_110 : decode cX0_start 110 = .ok (.iload 4, 2) := by decide +kernel
theorem dX0_start_112 : decode cX0_start 112 = .ok (.iload 5, 2) := by decide +kernel
theorem dX0_start_114 : decode cX0_start 114 = .ok (.invokevirtual 58, 3) := by decide +kernel
theorem dX0_start_117 : decode cX0_start 117 = .ok (.ireturn, 1) := by decide +kernel
theorem dX0_start_118 : decode cX0_start 118 = .ok (.aload_n 0, 1) := by decide +kernel
theorem dX0_start_119 : decode cX0_start 119 = .ok (.aload_n 1, 1) := by decide +kernel
theorem dX0_start_120 : decode cX0_start 120 = .ok (.iload 6, 2) := by decide +kernel
theorem dX0_start_122 : decode cX0_start 122 = .ok (.iload 4, 2) := by decide +kernel
theorem dX0_start_124 : decode cX0_start 124 = .ok (.iload 5, 2) := by decide +kernel
theorem dX0_start_126 : decode cX0_start 126 = .ok (.invokevirtual 61, 3) := by decide +kernel
theorem dX0_start_129 : decode cX0_start 129 = .ok (.ireturn, 1) := by decide +kernel
theorem dX0_start_130 : decode cX0_start 130 = .ok (.aload_n 0, 1) := by decide +kernel
theorem dX0_start_131 : decode cX0_start 131 = .ok (.aload_n 1, 1) := by decide +kernel
theorem dX0_start_132 : decode cX0_start 132 = .ok (.iload 6, 2) := by decide +kernel
theorem dX0_start_134 : decode cX0_start 134 = .ok (.iload 5, 2) := by decide +kernel
theorem dX0_start_136 : decode cX0_start 136 = .ok (.invokevirtual 64, 3) := by decide +kernel
theorem dX0_start_139 : decode cX0_start 139 = .ok (.ireturn, 1) := by decide +kernel
theorem dX0_start_140 : decode cX0_start 140 = .ok (.aload_n 0, 1) := by decide +kernel
theorem dX0_start_141 : decode cX0_start 141 = .ok (.aload_n 1, 1) := by decide +kernel
theorem dX0_start_142 : decode cX0_start 142 = .ok (.iload 6, 2) := by decide +kernel
theorem dX0_start_144 : decode cX0_start 144 = .ok (.iload 4, 2) := by decide +kernel
theorem dX0_start_146 : decode cX0_start 146 = .ok (.iload 5, 2) := by decide +kernel
theorem dX0_start_148 : decode cX0_start 148 = .ok (.invokevirtual 67, 3) := by decide +kernel
theorem dX0_start_151 : decode cX0_start 151 = .ok (.ireturn, 1) := by decide +kernel
theorem dX0_start_152 : decode cX0_start 152 = .ok (.aload_n 0, 1) := by decide +kernel
theorem dX0_start_153 : decode cX0_start 153 = .ok (.aload_n 1, 1) := by decide +kernel
theorem dX0_start_154 : decode cX0_start 154 = .ok (.iload 6, 2) := by decide +kernel
theorem dX0_start_156 : decode cX0_start 156 = .ok (.iload 5, 2) := by decide +kernel
theorem dX0_start_158 : decode cX0_start 158 = .ok (.invokevirtual 70, 3) := by decide +kernel
theorem dX0_start_161 : decode cX0_start 161 = .ok (.ireturn, 1) := by decide +kernel
set_option maxRecDepth 20000 in
theorem ggX0_askAbove_X4_within : GoodIn wsX0_askAbove wsX4_within := goodIn_r _ [3] (by decide +kernel) (by decide +kernel)
set_option maxRecDepth 20000 in
theorem gX0_askAbove_X4_within_n73 : GoodIn wsX0_askAbove (wsX4_within) := ggX0_askAbove_X4_within
set_option maxRecDepth 20000 in
theorem ggX0_askAbove_X0_start : GoodIn wsX0_askAbove wsX0_start := goodIn_r _ [48, 49, 50, 2, 51, 52, 53, 1, 3, 44, 45, 46, 7, 47, 30, 54, 55, 56, 57, 58, 59, 60, 61, 62, 63, 64, 65, 66, 67, 68, 69, 70, 71, 72, 73, 74, 75, 76, 77, 78, 79, 80, 81, 0, 4, 5, 6, 8, 9, 10, 11, 12, 13, 14, 15, 16, 17, 18, 19, 20, 21, 22, 23, 24, 25, 26, 27, 28, 29, 31, 32, 33, 34, 35, 36, 37, 38, 39, 40, 41, 42, 43, 82, 83, 84, 85, 86, 87, 88, 89, 90, 91, 92] (by decide +kernel) (by decide +kernel)
set_option maxRecDepth 20000 in
theorem gX0_askAbove_X0_start : GoodIn wsX0_askAbove (wsV RX0 34 RX0 yX0_start wsX0_start) := goodIn_app (goodIn_of _ (by decide +kernel)) ggX0_askAbove_X0_start
theorem dX0_askAbove_0 : decode cX0_askAbove 0 = .ok (.iload_n 2, 1) := by decide +kernel
theorem dX0_askAbove_1 : decode cX0_askAbove 1 = .ok (.iconst 0, 1) := by decide +kernel
theorem dX0_askAbove_2 : decode cX0_askAbove 2 = .ok (.bipush 9, 2) := by decide +kernel
theorem dX0_askAbove_4 : decode cX0_askAbove 4 = .ok (.invokestatic 73, 3) := by decide +kernel
theorem dX0_askAbove_7 : decode cX0_askAbove 7 = .ok (.ifCond .eq 23, 3) := by decide +kernel
theorem dX0_askAbove_10 : decode cX0_askAbove 10 = .ok (.aload_n 0, 1) := by decide +kernel
theorem dX0_askAbove_11 : decode cX0_askAbove 11 = .ok (.aload_n 1, 1) := by decide +kernel
theorem dX0_askAbove_12 : decode cX0_askAbove 12 = .ok (.getstatic 77, 3) := by decide +kernel
theorem dX0_askAbove_15 : decode cX0_askAbove 15 = .ok (.iload_n 2, 1) := by decide +kernel
theorem dX0_askAbove_16 : decode cX0_askAbove 16 = .ok (.iaload, 1) := by decide +kernel
theorem dX0_askAbove_17 : decode cX0_askAbove 17 = .ok (.iload_n 3, 1) := by decide +kernel
theorem dX0_askAbove_18 : decode cX0_askAbove 18 = .ok (.iload 4, 2) := by decide +kernel
theorem dX0_askAbove_20 : decode cX0_askAbove 20 = .ok (.iload 5, 2) := by decide +kernel
theorem dX0_askAbove_22 : decode cX0_askAbove 22 = .ok (.iconst 1, 1) := by decide +kernel
theorem dX0_askAbove_23 : decode cX0_askAbove 23 = .ok (.iadd, 1) := by decide +kernel
theorem dX0_askAbove_24 : decode cX0_askAbove 24 = .ok (.invokevirtual 34, 3) := by decide +kernel
theorem dX0_askAbove_27 : decode cX0_askAbove 27 = .ok (.goto 4, 3) := by decide +kernel
theorem dX0_askAbove_30 : decode cX0_askAbove 30 = .ok (.iconst 0, 1) := by decide +kernel
theorem dX0_askAbove_31 : decode cX0_askAbove 31 = .ok (.ireturn, 1) := by decide +kernel
set_option maxRecDepth 20000 in
theorem ggX0_askVehicle_X0_start : GoodIn wsX0_askVehicle wsX0_start := goodIn_r _ [48, 49, 50, 8, 51, 52, 53, 7, 9, 44, 45, 46, 5, 47, 30, 54, 55, 56, 57, 58, 59, 60, 61, 62, 63, 64, 65, 66, 67, 68, 69, 70, 71, 72, 73, 74, 75, 76, 77, 78, 79, 80, 81, 6, 2, 3, 4, 0, 1, 10, 11, 12, 13, 14, 15, 16, 17, 18, 19, 20, 21, 22, 23, 24, 25, 26, 27, 28, 29, 31, 32, 33, 34, 35, 36, 37, 38, 39, 40, 41, 42, 43, 82, 83, 84, 85, 86, 87, 88, 89, 90, 91, 92] (by decide +kernel) (by decide +kernel)
set_option maxRecDepth 20000 in
theorem gX0_askVehicle_X0_start : GoodIn wsX0_askVehicle (wsV RX0 34 RX0 yX0_start wsX0_start) := goodIn_app (goodIn_of _ (by decide +kernel)) ggX0_askVehicle_X0_start
theorem dX0_askVehicle_0 : decode cX0_askVehicle 0 = .ok (.aload_n 0, 1) := by decide +kernel
theorem dX0_askVehicle_1 : decode cX0_askVehicle 1 = .ok (.aload_n 1, 1) := by decide +kernel
theorem dX0_askVehicle_2 : decode cX0_askVehicle 2 = .ok (.aload_n 1, 1) := by decide +kernel
theorem dX0_askVehicle_3 : decode cX0_askVehicle 3 = .ok (.getfield 29, 3) := by decide +kernel
theorem dX0_askVehicle_6 : decode cX0_askVehicle 6 = .ok (.iload_n 2, 1) := by decide +kernel
theorem dX0_askVehicle_7 : decode cX0_askVehicle 7 = .ok (.iload_n 3, 1) := by decide +kernel
theorem dX0_askVehicle_8 : decode cX0_askVehicle 8 = .ok (.iload 4, 2) := by decide +kernel
theorem dX0_askVehicle_10 : decode cX0_askVehicle 10 = .ok (.iconst 1, 1) := by decide +kernel
theorem dX0_askVehicle_11 : decode cX0_askVehicle 11 = .ok (.iadd, 1) := by decide +kernel
theorem dX0_askVehicle_12 : decode cX0_askVehicle 12 = .ok (.invokevirtual 34, 3) := by decide +kernel
theorem dX0_askVehicle_15 : decode cX0_askVehicle 15 = .ok (.ireturn, 1) := by decide +kernel
theorem dX0_fail_0 : decode cX0_fail 0 = .ok (.aload_n 0, 1) := by decide +kernel
theorem dX0_fail_1 : decode cX0_fail 1 = .ok (.iload_n 1, 1) := by decide +kernel
theorem dX0_fail_2 : decode cX0_fail 2 = .ok (.putfield 26, 3) := by decide +kernel
theorem dX0_fail_5 : decode cX0_fail 5 = .ok (.iconst 0, 1) := by decide +kernel
theorem dX0_fail_6 : decode cX0_fail 6 = .ok (.ireturn, 1) := by decide +kernel
theorem dX0_takes_0 : decode cX0_takes 0 = .ok (.aload_n 0, 1) := by decide +kernel
theorem dX0_takes_1 : decode cX0_takes 1 = .ok (.getfield 26, 3) := by decide +kernel
theorem dX0_takes_4 : decode cX0_takes 4 = .ok (.iload_n 1, 1) := by decide +kernel
theorem dX0_takes_5 : decode cX0_takes 5 = .ok (.if_icmp .eq 5, 3) := by decide +kernel
theorem dX0_takes_8 : decode cX0_takes 8 = .ok (.iconst 0, 1) := by decide +kernel
theorem dX0_takes_9 : decode cX0_takes 9 = .ok (.ireturn, 1) := by decide +kernel
theorem dX0_takes_10 : decode cX0_takes 10 = .ok (.aload_n 0, 1) := by decide +kernel
theorem dX0_takes_11 : decode cX0_takes 11 = .ok (.iconst 0, 1) := by decide +kernel
theorem dX0_takes_12 : decode cX0_takes 12 = .ok (.putfield 26, 3) := by decide +kernel
theorem dX0_takes_15 : decode cX0_takes 15 = .ok (.iconst 1, 1) := by decide +kernel
theorem dX0_takes_16 : decode cX0_takes 16 = .ok (.ireturn, 1) := by decide +kernel
set_option maxRecDepth 20000 in
theorem ggX0_lengthBody_X0_askAbove : GoodIn wsX0_lengthBody wsX0_askAbove := goodIn_r _ [11, 12, 13, 14, 15, 16, 17, 10, 18, 19, 20, 2, 3, 4, 5, 6, 7, 8, 9, 21, 22, 23, 24, 25, 26, 27, 28, 29, 30, 31, 32, 33, 34, 35, 36, 37, 38, 39, 40, 0, 1, 41, 42, 43, 44, 45, 46, 47, 48, 49, 50, 51, 52, 53, 54, 55, 56, 57, 58, 59, 60, 61, 62, 63, 64, 65, 66, 67, 68, 69, 70, 71, 72, 73, 74, 75, 76, 77, 78, 79, 80, 81, 82, 83, 84, 85, 86, 87, 88, 89, 90, 91, 92] (by decide +kernel) (by decide +kernel)
set_option maxRecDepth 20000 in
theorem gX0_lengthBody_X0_askAbove : GoodIn wsX0_lengthBody (wsV RX0 81 RX0 yX0_askAbove wsX0_askAbove) := goodIn_app (goodIn_of _ (by decide +kernel)) ggX0_lengthBody_X0_askAbove
theorem dX0_lengthBody_0 : decode cX0_lengthBody 0 = .ok (.iload_n 2, 1) := by decide +kernel
theorem dX0_lengthBody_1 : decode cX0_lengthBody 1 = .ok (.ifCond .ne 8, 3) := by decide +kernel
theorem dX0_lengthBody_4 : decode cX0_lengthBody 4 = .ok (.aload_n 1, 1) := by decide +kernel
theorem dX0_lengthBody_5 : decode cX0_lengthBody 5 = .ok (.getfield 80, 3) := by decide +kernel
theorem dX0_lengthBody_8 : decode cX0_lengthBody 8 = .ok (.ireturn, 1) := by decide +kernel
theorem dX0_lengthBody_9 : decode cX0_lengthBody 9 = .ok (.aload_n 0, 1) := by decide +kernel
theorem dX0_lengthBody_10 : decode cX0_lengthBody 10 = .ok (.aload_n 1, 1) := by decide +kernel
theorem dX0_lengthBody_11 : decode cX0_lengthBody 11 = .ok (.iload_n 2, 1) := by decide +kernel
theorem dX0_lengthBody_12 : decode cX0_lengthBody 12 = .ok (.iconst 0, 1) := by decide +kernel
theorem dX0_lengthBody_13 : decode cX0_lengthBody 13 = .ok (.iconst 0, 1) := by decide +kernel
theorem dX0_lengthBody_14 : decode cX0_lengthBody 14 = .ok (.iload_n 3, 1) := by decide +kernel
theorem dX0_lengthBody_15 : decode cX0_lengthBody 15 = .ok (.invokevirtual 81, 3) := by decide +kernel
theorem dX0_lengthBody_18 : decode cX0_lengthBody 18 = .ok (.istore 4, 2) := by decide +kernel
theorem dX0_lengthBody_20 : decode cX0_lengthBody 20 = .ok (.iload_n 2, 1) := by decide +kernel
theorem dX0_lengthBody_21 : decode cX0_lengthBody 21 = .ok (.tableswitch 55 2 6 #[35, 55, 40, 55, 50], 35) := by decide +kernel
theorem dX0_lengthBody_56 : decode cX0_lengthBody 56 = .ok (.iload 4, 2) := by decide +kernel
theorem dX0_lengthBody_58 : decode cX0_lengthBody 58 = .ok (.iconst 1, 1) := by decide +kernel
theorem dX0_lengthBody_59 : decode cX0_lengthBody 59 = .ok (.iadd, 1) := by decide +kernel
theorem dX0_lengthBody_60 : decode cX0_lengthBody 60 = .ok (.ireturn, 1) := by decide +kernel
theorem dX0_lengthBody_61 : decode cX0_lengthBody 61 = .ok (.iload 4, 2) := by decide +kernel
theorem dX0_lengthBody_63 : decode cX0_lengthBody 63 = .ok (.aload_n 0, 1) := by decide +kernel
theorem dX0_lengthBody_64 : decode cX0_lengthBody 64 = .ok (.getfield 9, 3) := by decide +kernel
theorem dX0_lengthBody_67 : decode cX0_lengthBody 67 = .ok (.iconst 0, 1) := by decide +kernel
theorem dX0_lengthBody_68 : decode cX0_lengthBody 68 = .ok (.iaload, 1) := by decide +kernel
theorem dX0_lengthBody_69 : decode cX0_lengthBody 69 = .ok (.iadd, 1) := by decide +kernel
theorem dX0_lengthBody_70 : decode cX0_lengthBody 70 = .ok (.ireturn, 1) := by decide +kernel
theorem dX0_lengthBody_71 : decode cX0_lengthBody 71 = .ok (.iload 4, 2) := by decide +kernel
theorem dX0_lengthBody_73 : decode cX0_lengthBody 73 = .ok (.iconst 2, 1) := by decide +kernel
theorem dX0_lengthBody_74 : decode cX0_lengthBody 74 = .ok (.iadd, 1) := by decide +kernel
theorem dX0_lengthBody_75 : decode cX0_lengthBody 75 = .ok (.ireturn, 1) := by decide +kernel
theorem dX0_lengthBody_76 : decode cX0_lengthBody 76 = .ok (.iload 4, 2) := by decide +kernel
theorem dX0_lengthBody_78 : decode cX0_lengthBody 78 = .ok (.iconst 1, 1) := by decide +kernel
theorem dX0_lengthBody_79 : decode cX0_lengthBody 79 = .ok (.isub, 1) := by decide +kernel
theorem dX0_lengthBody_80 : decode cX0_lengthBody 80 = .ok (.iconst 1, 1) := by decide +kernel
theorem dX0_lengthBody_81 : decode cX0_lengthBody 81 = .ok (.invokestatic 84, 3) := by decide +kernel
theorem dX0_lengthBody_84 : decode cX0_lengthBody 84 = .ok (.ireturn, 1) := by decide +kernel
set_option maxRecDepth 20000 in
theorem ggX0_feeBody_X0_askAbove : GoodIn wsX0_feeBody wsX0_askAbove := goodIn_r _ [13, 14, 15, 16, 17, 18, 19, 9, 20, 21, 0, 1, 2, 3, 4, 5, 6, 7, 8, 10, 11, 12, 22, 23, 24, 25, 26, 27, 28, 29, 30, 31, 32, 33, 34, 35, 36, 37, 38, 39, 40, 41, 42, 43, 44, 45, 46, 47, 48, 49, 50, 51, 52, 53, 54, 55, 56, 57, 58, 59, 60, 61, 62, 63, 64, 65, 66, 67, 68, 69, 70, 71, 72, 73, 74, 75, 76, 77, 78, 79, 80, 81, 82, 83, 84, 85, 86, 87, 88, 89, 90, 91, 92] (by decide +kernel) (by decide +kernel)
set_option maxRecDepth 20000 in
theorem gX0_feeBody_X0_askAbove : GoodIn wsX0_feeBody (wsV RX0 81 RX0 yX0_askAbove wsX0_askAbove) := goodIn_app (goodIn_of _ (by decide +kernel)) ggX0_feeBody_X0_askAbove
set_option maxRecDepth 20000 in
theorem ggX0_feeBody_X0_askVehicle : GoodIn wsX0_feeBody wsX0_askVehicle := goodIn_r _ [20, 21, 17, 18, 19, 9, 13, 14, 15, 16, 0, 1, 2, 3, 4, 5, 6, 7, 8, 10, 11, 12, 22, 23, 24, 25, 26, 27, 28, 29, 30, 31, 32, 33, 34, 35, 36, 37, 38, 39, 40, 41, 42, 43, 44, 45, 46, 47, 48, 49, 50, 51, 52, 53, 54, 55, 56, 57, 58, 59, 60, 61, 62, 63, 64, 65, 66, 67, 68, 69, 70, 71, 72, 73, 74, 75, 76, 77, 78, 79, 80, 81, 82, 83, 84, 85, 86, 87, 88, 89, 90, 91, 92] (by decide +kernel) (by decide +kernel)
set_option maxRecDepth 20000 in
theorem gX0_feeBody_X0_askVehicle : GoodIn wsX0_feeBody (wsV RX0 89 RX0 yX0_askVehicle wsX0_askVehicle) := goodIn_app (goodIn_of _ (by decide +kernel)) ggX0_feeBody_X0_askVehicle
theorem dX0_feeBody_0 : decode cX0_feeBody 0 = .ok (.iload_n 2, 1) := by decide +kernel
theorem dX0_feeBody_1 : decode cX0_feeBody 1 = .ok (.ifCond .ne 19, 3) := by decide +kernel
theorem dX0_feeBody_4 : decode cX0_feeBody 4 = .ok (.aload_n 0, 1) := by decide +kernel
theorem dX0_feeBody_5 : decode cX0_feeBody 5 = .ok (.getfield 9, 3) := by decide +kernel
theorem dX0_feeBody_8 : decode cX0_feeBody 8 = .ok (.iconst 1, 1) := by decide +kernel
theorem dX0_feeBody_9 : decode cX0_feeBody 9 = .ok (.iaload, 1) := by decide +kernel
theorem dX0_feeBody_10 : decode cX0_feeBody 10 = .ok (.iload_n 3, 1) := by decide +kernel
theorem dX0_feeBody_11 : decode cX0_feeBody 11 = .ok (.aload_n 0, 1) := by decide +kernel
theorem dX0_feeBody_12 : decode cX0_feeBody 12 = .ok (.getfield 9, 3) := by decide +kernel
theorem dX0_feeBody_15 : decode cX0_feeBody 15 = .ok (.iconst 2, 1) := by decide +kernel
theorem dX0_feeBody_16 : decode cX0_feeBody 16 = .ok (.iaload, 1) := by decide +kernel
theorem dX0_feeBody_17 : decode cX0_feeBody 17 = .ok (.imul, 1) := by decide +kernel
theorem dX0_feeBody_18 : decode cX0_feeBody 18 = .ok (.iadd, 1) := by decide +kernel
theorem dX0_feeBody_19 : decode cX0_feeBody 19 = .ok (.ireturn, 1) := by decide +kernel
theorem dX0_feeBody_20 : decode cX0_feeBody 20 = .ok (.aload_n 0, 1) := by decide +kernel
theorem dX0_feeBody_21 : decode cX0_feeBody 21 = .ok (.aload_n 1, 1) := by decide +kernel
theorem dX0_feeBody_22 : decode cX0_feeBody 22 = .ok (.iload_n 2, 1) := by decide +kernel
theorem dX0_feeBody_23 : decode cX0_feeBody 23 = .ok (.iconst 1, 1) := by decide +kernel
theorem dX0_feeBody_24 : decode cX0_feeBody 24 = .ok (.iload_n 3, 1) := by decide +kernel
theorem dX0_feeBody_25 : decode cX0_feeBody 25 = .ok (.iload 4, 2) := by decide +kernel
theorem dX0_feeBody_27 : decode cX0_feeBody 27 = .ok (.invokevirtual 81, 3) := by decide +kernel
theorem dX0_feeBody_30 : decode cX0_feeBody 30 = .ok (.istore 5, 2) := by decide +kernel
theorem dX0_feeBody_32 : decode cX0_feeBody 32 = .ok (.iload_n 2, 1) := by decide +kernel
theorem dX0_feeBody_33 : decode cX0_feeBody 33 = .ok (.tableswitch 89 1 7 #[43, 89, 57, 89, 70, 89, 84], 43) := by decide +kernel
theorem dX0_feeBody_76 : decode cX0_feeBody 76 = .ok (.iload 5, 2) := by decide +kernel
theorem dX0_feeBody_78 : decode cX0_feeBody 78 = .ok (.aload_n 0, 1) := by decide +kernel
theorem dX0_feeBody_79 : decode cX0_feeBody 79 = .ok (.getfield 9, 3) := by decide +kernel
theorem dX0_feeBody_82 : decode cX0_feeBody 82 = .ok (.iconst 3, 1) := by decide +kernel
theorem dX0_feeBody_83 : decode cX0_feeBody 83 = .ok (.iaload, 1) := by decide +kernel
theorem dX0_feeBody_84 : decode cX0_feeBody 84 = .ok (.isub, 1) := by decide +kernel
theorem dX0_feeBody_85 : decode cX0_feeBody 85 = .ok (.iconst 0, 1) := by decide +kernel
theorem dX0_feeBody_86 : decode cX0_feeBody 86 = .ok (.invokestatic 84, 3) := by decide +kernel
theorem dX0_feeBody_89 : decode cX0_feeBody 89 = .ok (.ireturn, 1) := by decide +kernel
theorem dX0_feeBody_90 : decode cX0_feeBody 90 = .ok (.iload 5, 2) := by decide +kernel
theorem dX0_feeBody_92 : decode cX0_feeBody 92 = .ok (.aload_n 0, 1) := by decide +kernel
theorem dX0_feeBody_93 : decode cX0_feeBody 93 = .ok (.aload_n 1, 1) := by decide +kernel
theorem dX0_feeBody_94 : decode cX0_feeBody 94 = .ok (.iconst 0, 1) := by decide +kernel
theorem dX0_feeBody_95 : decode cX0_feeBody 95 = .ok (.iconst 0, 1) := by decide +kernel
theorem dX0_feeBody_96 : decode cX0_feeBody 96 = .ok (.iload 4, 2) := by decide +kernel
theorem dX0_feeBody_98 : decode cX0_feeBody 98 = .ok (.invokevirtual 89, 3) := by decide +kernel
theorem dX0_feeBody_101 : decode cX0_feeBody 101 = .ok (.iadd, 1) := by decide +kernel
theorem dX0_feeBody_102 : decode cX0_feeBody 102 = .ok (.ireturn, 1) := by decide +kernel
theorem dX0_feeBody_103 : decode cX0_feeBody 103 = .ok (.iload 5, 2) := by decide +kernel
theorem dX0_feeBody_105 : decode cX0_feeBody 105 = .ok (.aload_n 0, 1) := by decide +kernel
theorem dX0_feeBody_106 : decode cX0_feeBody 106 = .ok (.aload_n 1, 1) := by decide +kernel
theorem dX0_feeBody_107 : decode cX0_feeBody 107 = .ok (.iload_n 2, 1) := by decide +kernel
theorem dX0_feeBody_108 : decode cX0_feeBody 108 = .ok (.iconst 1, 1) := by decide +kernel
theorem dX0_feeBody_109 : decode cX0_feeBody 109 = .ok (.iconst 0, 1) := by decide +kernel
theorem dX0_feeBody_110 : decode cX0_feeBody 110 = .ok (.iload 4, 2) := by decide +kernel
theorem dX0_feeBody_112 : decode cX0_feeBody 112 = .ok (.invokevirtual 81, 3) := by decide +kernel
theorem dX0_feeBody_115 : decode cX0_feeBody 115 = .ok (.iadd, 1) := by decide +kernel
theorem dX0_feeBody_116 : decode cX0_feeBody 116 = .ok (.ireturn, 1) := by decide +kernel
theorem dX0_feeBody_117 : decode cX0_feeBody 117 = .ok (.iconst 2, 1) := by decide +kernel
theorem dX0_feeBody_118 : decode cX0_feeBody 118 = .ok (.iload 5, 2) := by decide +kernel
theorem dX0_feeBody_120 : decode cX0_feeBody 120 = .ok (.imul, 1) := by decide +kernel
theorem dX0_feeBody_121 : decode cX0_feeBody 121 = .ok (.ireturn, 1) := by decide +kernel
theorem dX0_feeBody_122 : decode cX0_feeBody 122 = .ok (.iload 5, 2) := by decide +kernel
theorem dX0_feeBody_124 : decode cX0_feeBody 124 = .ok (.aload_n 0, 1) := by decide +kernel
theorem dX0_feeBody_125 : decode cX0_feeBody 125 = .ok (.aload_n 1, 1) := by decide +kernel
theorem dX0_feeBody_126 : decode cX0_feeBody 126 = .ok (.iconst 2, 1) := by decide +kernel
theorem dX0_feeBody_127 : decode cX0_feeBody 127 = .ok (.iconst 0, 1) := by decide +kernel
theorem dX0_feeBody_128 : decode cX0_feeBody 128 = .ok (.iload 4, 2) := by decide +kernel
theorem dX0_feeBody_130 : decode cX0_feeBody 130 = .ok (.invokevirtual 89, 3) := by decide +kernel
theorem dX0_feeBody_133 : decode cX0_feeBody 133 = .ok (.iadd, 1) := by decide +kernel
theorem dX0_feeBody_134 : decode cX0_feeBody 134 = .ok (.ireturn, 1) := by decide +kernel
set_option maxRecDepth 20000 in
theorem ggX0_riskBody_X0_fail : GoodIn wsX0_riskBody wsX0_fail := goodIn_r _ [7, 8, 88, 89, 90] (by decide +kernel) (by decide +kernel)
set_option maxRecDepth 20000 in
theorem gX0_riskBody_X0_fail : GoodIn wsX0_riskBody (wsV RX0 92 RX0 yX0_fail wsX0_fail) := goodIn_app (goodIn_of _ (by decide +kernel)) ggX0_riskBody_X0_fail
set_option maxRecDepth 20000 in
theorem ggX0_riskBody_X0_askAbove : GoodIn wsX0_riskBody wsX0_askAbove := goodIn_r _ [20, 21, 22, 23, 24, 25, 26, 6, 27, 28, 29, 2, 30, 31, 32, 33, 9, 10, 11, 34, 35, 36, 37, 1, 38, 39, 3, 4, 5, 7, 8, 40, 41, 42, 43, 12, 13, 14, 15, 44, 45, 46, 47, 0, 16, 17, 18, 19, 48, 49, 50, 51, 52, 53, 54, 55, 56, 57, 58, 59, 60, 61, 62, 63, 64, 65, 66, 67, 68, 69, 70, 71, 72, 73, 74, 75, 76, 77, 78, 79, 80, 81, 82, 83, 84, 85, 86, 87, 88, 89, 90, 91, 92] (by decide +kernel) (by decide +kernel)
set_option maxRecDepth 20000 in
theorem gX0_riskBody_X0_askAbove : GoodIn wsX0_riskBody (wsV RX0 81 RX0 yX0_askAbove wsX0_askAbove) := goodIn_app (goodIn_of _ (by decide +kernel)) ggX0_riskBody_X0_askAbove
set_option maxRecDepth 20000 in
theorem ggX0_riskBody_X0_takes : GoodIn wsX0_riskBody wsX0_takes := goodIn_r _ [15, 8, 88, 89, 90] (by decide +kernel) (by decide +kernel)
set_option maxRecDepth 20000 in
theorem gX0_riskBody_X0_takes : GoodIn wsX0_riskBody (wsV RX0 99 RX0 yX0_takes wsX0_takes) := goodIn_app (goodIn_of _ (by decide +kernel)) ggX0_riskBody_X0_takes
set_option maxRecDepth 20000 in
theorem ggX0_riskBody_X0_failed : GoodIn wsX0_riskBody wsX0_failed := goodIn_r _ [19, 8, 88, 89, 90] (by decide +kernel) (by decide +kernel)
set_option maxRecDepth 20000 in
theorem gX0_riskBody_X0_failed : GoodIn wsX0_riskBody (wsV RX0 42 RX0 yX0_failed wsX0_failed) := goodIn_app (goodIn_of _ (by decide +kernel)) ggX0_riskBody_X0_failed
theorem dX0_riskBody_0 : decode cX0_riskBody 0 = .ok (.iload_n 2, 1) := by decide +kernel
theorem dX0_riskBody_1 : decode cX0_riskBody 1 = .ok (.ifCond .ne 19, 3) := by decide +kernel
theorem dX0_riskBody_4 : decode cX0_riskBody 4 = .ok (.iload_n 3, 1) := by decide +kernel
theorem dX0_riskBody_5 : decode cX0_riskBody 5 = .ok (.bipush 9, 2) := by decide +kernel
theorem dX0_riskBody_7 : decode cX0_riskBody 7 = .ok (.if_icmp .le 11, 3) := by decide +kernel
theorem dX0_riskBody_10 : decode cX0_riskBody 10 = .ok (.aload_n 0, 1) := by decide +kernel
theorem dX0_riskBody_11 : decode cX0_riskBody 11 = .ok (.iconst 1, 1) := by decide +kernel
theorem dX0_riskBody_12 : decode cX0_riskBody 12 = .ok (.invokevirtual 92, 3) := by decide +kernel
theorem dX0_riskBody_15 : decode cX0_riskBody 15 = .ok (.goto 4, 3) := by decide +kernel
theorem dX0_riskBody_18 : decode cX0_riskBody 18 = .ok (.iload_n 3, 1) := by decide +kernel
theorem dX0_riskBody_19 : decode cX0_riskBody 19 = .ok (.ireturn, 1) := by decide +kernel
theorem dX0_riskBody_20 : decode cX0_riskBody 20 = .ok (.iload_n 2, 1) := by decide +kernel
theorem dX0_riskBody_21 : decode cX0_riskBody 21 = .ok (.bipush 6, 2) := by decide +kernel
theorem dX0_riskBody_23 : decode cX0_riskBody 23 = .ok (.if_icmp .ne 22, 3) := by decide +kernel
theorem dX0_riskBody_26 : decode cX0_riskBody 26 = .ok (.aload_n 1, 1) := by decide +kernel
theorem dX0_riskBody_27 : decode cX0_riskBody 27 = .ok (.getfield 96, 3) := by decide +kernel
theorem dX0_riskBody_30 : decode cX0_riskBody 30 = .ok (.aload_n 0, 1) := by decide +kernel
theorem dX0_riskBody_31 : decode cX0_riskBody 31 = .ok (.getfield 9, 3) := by decide +kernel
theorem dX0_riskBody_34 : decode cX0_riskBody 34 = .ok (.iconst 4, 1) := by decide +kernel
theorem dX0_riskBody_35 : decode cX0_riskBody 35 = .ok (.iaload, 1) := by decide +kernel
theorem dX0_riskBody_36 : decode cX0_riskBody 36 = .ok (.if_icmp .le 9, 3) := by decide +kernel
theorem dX0_riskBody_39 : decode cX0_riskBody 39 = .ok (.aload_n 0, 1) := by decide +kernel
theorem dX0_riskBody_40 : decode cX0_riskBody 40 = .ok (.iconst 2, 1) := by decide +kernel
theorem dX0_riskBody_41 : decode cX0_riskBody 41 = .ok (.invokevirtual 92, 3) := by decide +kernel
theorem dX0_riskBody_44 : decode cX0_riskBody 44 = .ok (.ireturn, 1) := by decide +kernel
theorem dX0_riskBody_45 : decode cX0_riskBody 45 = .ok (.aload_n 0, 1) := by decide +kernel
theorem dX0_riskBody_46 : decode cX0_riskBody 46 = .ok (.aload_n 1, 1) := by decide +kernel
theorem dX0_riskBody_47 : decode cX0_riskBody 47 = .ok (.iload_n 2, 1) := by decide +kernel
theorem dX0_riskBody_48 : decode cX0_riskBody 48 = .ok (.iconst 2, 1) := by decide +kernel
theorem dX0_riskBody_49 : decode cX0_riskBody 49 = .ok (.iload_n 2, 1) := by decide +kernel
theorem dX0_riskBody_50 : decode cX0_riskBody 50 = .ok (.iconst 2, 1) := by decide +kernel
theorem dX0_riskBody_51 : decode cX0_riskBody 51 = .ok (.if_icmp .ne 9, 3) := by decide +kernel
theorem dX0_riskBody_54 : decode cX0_riskBody 54 = .ok (.iload_n 3, 1) := by decide +kernel
theorem dX0_riskBody_55 : decode cX0_riskBody 55 = .ok (.iconst 2, 1) := by decide +kernel
theorem dX0_riskBody_56 : decode cX0_riskBody 56 = .ok (.iadd, 1) := by decide +kernel
theorem dX0_riskBody_57 : decode cX0_riskBody 57 = .ok (.goto 4, 3) := by decide +kernel
theorem dX0_riskBody_60 : decode cX0_riskBody 60 = .ok (.iload_n 3, 1) := by decide +kernel
theorem dX0_riskBody_61 : decode cX0_riskBody 61 = .ok (.iload 4, 2) := by decide +kernel
theorem dX0_riskBody_63 : decode cX0_riskBody 63 = .ok (.invokevirtual 81, 3) := by decide +kernel
theorem dX0_riskBody_66 : decode cX0_riskBody 66 = .ok (.istore 5, 2) := by decide +kernel
theorem dX0_riskBody_68 : decode cX0_riskBody 68 = .ok (.iload_n 2, 1) := by decide +kernel
theorem dX0_riskBody_69 : decode cX0_riskBody 69 = .ok (.lookupswitch 92 #[(4, 35), (8, 51), (9, 76)], 35) := by decide +kernel
theorem dX0_riskBody_104 : decode cX0_riskBody 104 = .ok (.aload_n 0, 1) := by decide +kernel
theorem dX0_riskBody_105 : decode cX0_riskBody 105 = .ok (.iconst 1, 1) := by decide +kernel
theorem dX0_riskBody_106 : decode cX0_riskBody 106 = .ok (.invokevirtual 99, 3) := by decide +kernel
theorem dX0_riskBody_109 : decode cX0_riskBody 109 = .ok (.ifCond .eq 8, 3) := by decide +kernel
theorem dX0_riskBody_112 : decode cX0_riskBody 112 = .ok (.bipush 20, 2) := by decide +kernel
theorem dX0_riskBody_114 : decode cX0_riskBody 114 = .ok (.goto 5, 3) := by decide +kernel
theorem dX0_riskBody_117 : decode cX0_riskBody 117 = .ok (.iload 5, 2) := by decide +kernel
theorem dX0_riskBody_119 : decode cX0_riskBody 119 = .ok (.ireturn, 1) := by decide +kernel
theorem dX0_riskBody_120 : decode cX0_riskBody 120 = .ok (.aload_n 0, 1) := by decide +kernel
theorem dX0_riskBody_121 : decode cX0_riskBody 121 = .ok (.invokevirtual 42, 3) := by decide +kernel
theorem dX0_riskBody_124 : decode cX0_riskBody 124 = .ok (.ifCond .ne 18, 3) := by decide +kernel
theorem dX0_riskBody_127 : decode cX0_riskBody 127 = .ok (.iload 5, 2) := by decide +kernel
theorem dX0_riskBody_129 : decode cX0_riskBody 129 = .ok (.iconst 2, 1) := by decide +kernel
theorem dX0_riskBody_130 : decode cX0_riskBody 130 = .ok (.irem, 1) := by decide +kernel
theorem dX0_riskBody_131 : decode cX0_riskBody 131 = .ok (.ifCond .eq 11, 3) := by decide +kernel
theorem dX0_riskBody_134 : decode cX0_riskBody 134 = .ok (.aload_n 0, 1) := by decide +kernel
theorem dX0_riskBody_135 : decode cX0_riskBody 135 = .ok (.iconst 3, 1) := by decide +kernel
theorem dX0_riskBody_136 : decode cX0_riskBody 136 = .ok (.invokevirtual 92, 3) := by decide +kernel
theorem dX0_riskBody_139 : decode cX0_riskBody 139 = .ok (.goto 5, 3) := by decide +kernel
theorem dX0_riskBody_142 : decode cX0_riskBody 142 = .ok (.iload 5, 2) := by decide +kernel
theorem dX0_riskBody_144 : decode cX0_riskBody 144 = .ok (.ireturn, 1) := by decide +kernel
theorem dX0_riskBody_145 : decode cX0_riskBody 145 = .ok (.aload_n 0, 1) := by decide +kernel
theorem dX0_riskBody_146 : decode cX0_riskBody 146 = .ok (.iconst 3, 1) := by decide +kernel
theorem dX0_riskBody_147 : decode cX0_riskBody 147 = .ok (.invokevirtual 99, 3) := by decide +kernel
theorem dX0_riskBody_150 : decode cX0_riskBody 150 = .ok (.ifCond .eq 8, 3) := by decide +kernel
theorem dX0_riskBody_153 : decode cX0_riskBody 153 = .ok (.bipush 50, 2) := by decide +kernel
theorem dX0_riskBody_155 : decode cX0_riskBody 155 = .ok (.goto 5, 3) := by decide +kernel
theorem dX0_riskBody_158 : decode cX0_riskBody 158 = .ok (.iload 5, 2) := by decide +kernel
theorem dX0_riskBody_160 : decode cX0_riskBody 160 = .ok (.ireturn, 1) := by decide +kernel
theorem dX0_riskBody_161 : decode cX0_riskBody 161 = .ok (.iload 5, 2) := by decide +kernel
theorem dX0_riskBody_163 : decode cX0_riskBody 163 = .ok (.ireturn, 1) := by decide +kernel
set_option maxRecDepth 20000 in
theorem ggX0_lashBody_X0_askAbove : GoodIn wsX0_lashBody wsX0_askAbove := goodIn_r _ [15, 16, 17, 18, 19, 20, 21, 6, 22, 23, 24, 2, 25, 26, 27, 28, 3, 4, 5, 29, 30, 31, 32, 33, 0, 1, 7, 8, 9, 10, 11, 12, 13, 14, 34, 35, 36, 37, 38, 39, 40, 41, 42, 43, 44, 45, 46, 47, 48, 49, 50, 51, 52, 53, 54, 55, 56, 57, 58, 59, 60, 61, 62, 63, 64, 65, 66, 67, 68, 69, 70, 71, 72, 73, 74, 75, 76, 77, 78, 79, 80, 81, 82, 83, 84, 85, 86, 87, 88, 89, 90, 91, 92] (by decide +kernel) (by decide +kernel)
set_option maxRecDepth 20000 in
theorem gX0_lashBody_X0_askAbove : GoodIn wsX0_lashBody (wsV RX0 81 RX0 yX0_askAbove wsX0_askAbove) := goodIn_app (goodIn_of _ (by decide +kernel)) ggX0_lashBody_X0_askAbove
set_option maxRecDepth 20000 in
theorem ggX0_lashBody_X0_fail : GoodIn wsX0_lashBody wsX0_fail := goodIn_r _ [10, 11, 88, 89, 90] (by decide +kernel) (by decide +kernel)
set_option maxRecDepth 20000 in
theorem gX0_lashBody_X0_fail : GoodIn wsX0_lashBody (wsV RX0 92 RX0 yX0_fail wsX0_fail) := goodIn_app (goodIn_of _ (by decide +kernel)) ggX0_lashBody_X0_fail
set_option maxRecDepth 20000 in
theorem ggX0_lashBody_X0_lashMixed : GoodIn wsX0_lashBody wsX0_lashMixed := goodIn_r _ [34, 1, 3, 4, 5, 6, 35, 36, 37, 38, 11, 15, 16, 17, 18, 19, 20, 21, 22, 23, 24, 2, 25, 26, 27, 28, 29, 30, 31, 32, 33, 0, 7, 8, 9, 10, 12, 13, 14, 39, 40, 41, 42, 43, 44, 45, 46, 47, 48, 49, 50, 51, 52, 53, 54, 55, 56, 57, 58, 59, 60, 61, 62, 63, 64, 65, 66, 67, 68, 69, 70, 71, 72, 73, 74, 75, 76, 77, 78, 79, 80, 81, 82, 83, 84, 85, 86, 87, 88, 89, 90, 91, 92] (by decide +kernel) (by decide +kernel)
set_option maxRecDepth 20000 in
theorem gX0_lashBody_X0_lashMixed : GoodIn wsX0_lashBody (wsV RX0 106 RX0 yX0_lashMixed wsX0_lashMixed) := goodIn_app (goodIn_of _ (by decide +kernel)) ggX0_lashBody_X0_lashMixed
theorem dX0_lashBody_0 : decode cX0_lashBody 0 = .ok (.iload_n 2, 1) := by decide +kernel
theorem dX0_lashBody_1 : decode cX0_lashBody 1 = .ok (.tableswitch 146 0 8 #[51, 146, 66, 146, 88, 146, 146, 101, 114], 51) := by decide +kernel
theorem dX0_lashBody_52 : decode cX0_lashBody 52 = .ok (.aload_n 1, 1) := by decide +kernel
theorem dX0_lashBody_53 : decode cX0_lashBody 53 = .ok (.dup, 1) := by decide +kernel
theorem dX0_lashBody_54 : decode cX0_lashBody 54 = .ok (.getfield 103, 3) := by decide +kernel
theorem dX0_lashBody_57 : decode cX0_lashBody 57 = .ok (.iload_n 3, 1) := by decide +kernel
theorem dX0_lashBody_58 : decode cX0_lashBody 58 = .ok (.iadd, 1) := by decide +kernel
theorem dX0_lashBody_59 : decode cX0_lashBody 59 = .ok (.putfield 103, 3) := by decide +kernel
theorem dX0_lashBody_62 : decode cX0_lashBody 62 = .ok (.aload_n 1, 1) := by decide +kernel
theorem dX0_lashBody_63 : decode cX0_lashBody 63 = .ok (.getfield 103, 3) := by decide +kernel
theorem dX0_lashBody_66 : decode cX0_lashBody 66 = .ok (.ireturn, 1) := by decide +kernel
theorem dX0_lashBody_67 : decode cX0_lashBody 67 = .ok (.aload_n 0, 1) := by decide +kernel
theorem dX0_lashBody_68 : decode cX0_lashBody 68 = .ok (.aload_n 1, 1) := by decide +kernel
theorem dX0_lashBody_69 : decode cX0_lashBody 69 = .ok (.iload_n 2, 1) := by decide +kernel
theorem dX0_lashBody_70 : decode cX0_lashBody 70 = .ok (.iconst 3, 1) := by decide +kernel
theorem dX0_lashBody_71 : decode cX0_lashBody 71 = .ok (.iload_n 3, 1) := by decide +kernel
theorem dX0_lashBody_72 : decode cX0_lashBody 72 = .ok (.iload 4, 2) := by decide +kernel
theorem dX0_lashBody_74 : decode cX0_lashBody 74 = .ok (.invokevirtual 81, 3) := by decide +kernel
theorem dX0_lashBody_77 : decode cX0_lashBody 77 = .ok (.pop, 1) := by decide +kernel
theorem dX0_lashBody_78 : decode cX0_lashBody 78 = .ok (.aload_n 0, 1) := by decide +kernel
theorem dX0_lashBody_79 : decode cX0_lashBody 79 = .ok (.aload_n 1, 1) := by decide +kernel
theorem dX0_lashBody_80 : decode cX0_lashBody 80 = .ok (.iload_n 2, 1) := by decide +kernel
theorem dX0_lashBody_81 : decode cX0_lashBody 81 = .ok (.iconst 3, 1) := by decide +kernel
theorem dX0_lashBody_82 : decode cX0_lashBody 82 = .ok (.iconst 1, 1) := by decide +kernel
theorem dX0_lashBody_83 : decode cX0_lashBody 83 = .ok (.iload 4, 2) := by decide +kernel
theorem dX0_lashBody_85 : decode cX0_lashBody 85 = .ok (.invokevirtual 81, 3) := by decide +kernel
theorem dX0_lashBody_88 : decode cX0_lashBody 88 = .ok (.ireturn, 1) := by decide +kernel
theorem dX0_lashBody_89 : decode cX0_lashBody 89 = .ok (.aload_n 0, 1) := by decide +kernel
theorem dX0_lashBody_90 : decode cX0_lashBody 90 = .ok (.aload_n 1, 1) := by decide +kernel
theorem dX0_lashBody_91 : decode cX0_lashBody 91 = .ok (.iload_n 2, 1) := by decide +kernel
theorem dX0_lashBody_92 : decode cX0_lashBody 92 = .ok (.iconst 3, 1) := by decide +kernel
theorem dX0_lashBody_93 : decode cX0_lashBody 93 = .ok (.iload_n 3, 1) := by decide +kernel
theorem dX0_lashBody_94 : decode cX0_lashBody 94 = .ok (.iconst 2, 1) := by decide +kernel
theorem dX0_lashBody_95 : decode cX0_lashBody 95 = .ok (.idiv, 1) := by decide +kernel
theorem dX0_lashBody_96 : decode cX0_lashBody 96 = .ok (.iload 4, 2) := by decide +kernel
theorem dX0_lashBody_98 : decode cX0_lashBody 98 = .ok (.invokevirtual 81, 3) := by decide +kernel
theorem dX0_lashBody_101 : decode cX0_lashBody 101 = .ok (.ireturn, 1) := by decide +kernel
theorem dX0_lashBody_102 : decode cX0_lashBody 102 = .ok (.aload_n 0, 1) := by decide +kernel
theorem dX0_lashBody_103 : decode cX0_lashBody 103 = .ok (.aload_n 1, 1) := by decide +kernel
theorem dX0_lashBody_104 : decode cX0_lashBody 104 = .ok (.iload_n 2, 1) := by decide +kernel
theorem dX0_lashBody_105 : decode cX0_lashBody 105 = .ok (.iconst 3, 1) := by decide +kernel
theorem dX0_lashBody_106 : decode cX0_lashBody 106 = .ok (.iload_n 3, 1) := by decide +kernel
theorem dX0_lashBody_107 : decode cX0_lashBody 107 = .ok (.iload_n 3, 1) := by decide +kernel
theorem dX0_lashBody_108 : decode cX0_lashBody 108 = .ok (.iadd, 1) := by decide +kernel
theorem dX0_lashBody_109 : decode cX0_lashBody 109 = .ok (.iload 4, 2) := by decide +kernel
theorem dX0_lashBody_111 : decode cX0_lashBody 111 = .ok (.invokevirtual 81, 3) := by decide +kernel
theorem dX0_lashBody_114 : decode cX0_lashBody 114 = .ok (.ireturn, 1) := by decide +kernel
theorem dX0_lashBody_115 : decode cX0_lashBody 115 = .ok (.aload_n 1, 1) := by decide +kernel
theorem dX0_lashBody_116 : decode cX0_lashBody 116 = .ok (.getfield 103, 3) := by decide +kernel
theorem dX0_lashBody_119 : decode cX0_lashBody 119 = .ok (.aload_n 0, 1) := by decide +kernel
theorem dX0_lashBody_120 : decode cX0_lashBody 120 = .ok (.getfield 9, 3) := by decide +kernel
theorem dX0_lashBody_123 : decode cX0_lashBody 123 = .ok (.iconst 5, 1) := by decide +kernel
theorem dX0_lashBody_124 : decode cX0_lashBody 124 = .ok (.iaload, 1) := by decide +kernel
theorem dX0_lashBody_125 : decode cX0_lashBody 125 = .ok (.if_icmp .le 11, 3) := by decide +kernel
theorem dX0_lashBody_128 : decode cX0_lashBody 128 = .ok (.aload_n 0, 1) := by decide +kernel
theorem dX0_lashBody_129 : decode cX0_lashBody 129 = .ok (.iconst 4, 1) := by decide +kernel
theorem dX0_lashBody_130 : decode cX0_lashBody 130 = .ok (.invokevirtual 92, 3) := by decide +kernel
theorem dX0_lashBody_133 : decode cX0_lashBody 133 = .ok (.goto 13, 3) := by decide +kernel
theorem dX0_lashBody_136 : decode cX0_lashBody 136 = .ok (.aload_n 0, 1) := by decide +kernel
theorem dX0_lashBody_137 : decode cX0_lashBody 137 = .ok (.aload_n 1, 1) := by decide +kernel
theorem dX0_lashBody_138 : decode cX0_lashBody 138 = .ok (.iload_n 2, 1) := by decide +kernel
theorem dX0_lashBody_139 : decode cX0_lashBody 139 = .ok (.iconst 3, 1) := by decide +kernel
theorem dX0_lashBody_140 : decode cX0_lashBody 140 = .ok (.iload_n 3, 1) := by decide +kernel
theorem dX0_lashBody_141 : decode cX0_lashBody 141 = .ok (.iload 4, 2) := by decide +kernel
theorem dX0_lashBody_143 : decode cX0_lashBody 143 = .ok (.invokevirtual 81, 3) := by decide +kernel
theorem dX0_lashBody_146 : decode cX0_lashBody 146 = .ok (.ireturn, 1) := by decide +kernel
theorem dX0_lashBody_147 : decode cX0_lashBody 147 = .ok (.aload_n 0, 1) := by decide +kernel
theorem dX0_lashBody_148 : decode cX0_lashBody 148 = .ok (.aload_n 1, 1) := by decide +kernel
theorem dX0_lashBody_149 : decode cX0_lashBody 149 = .ok (.iload_n 3, 1) := by decide +kernel
theorem dX0_lashBody_150 : decode cX0_lashBody 150 = .ok (.iload 4, 2) := by decide +kernel
theorem dX0_lashBody_152 : decode cX0_lashBody 152 = .ok (.invokevirtual 106, 3) := by decide +kernel
theorem dX0_lashBody_155 : decode cX0_lashBody 155 = .ok (.ireturn, 1) := by decide +kernel
set_option maxRecDepth 20000 in
theorem ggX0_lashMixed_X0_askAbove : GoodIn wsX0_lashMixed wsX0_askAbove := goodIn_r _ [11, 12, 13, 14, 15, 16, 17, 5, 18, 19, 20, 21, 22, 23, 24, 25, 2, 3, 4, 26, 27, 28, 29, 30, 31, 1, 32, 33, 34, 35, 10, 36, 37, 38, 0, 6, 7, 8, 9, 39, 40, 41, 42, 43, 44, 45, 46, 47, 48, 49, 50, 51, 52, 53, 54, 55, 56, 57, 58, 59, 60, 61, 62, 63, 64, 65, 66, 67, 68, 69, 70, 71, 72, 73, 74, 75, 76, 77, 78, 79, 80, 81, 82, 83, 84, 85, 86, 87, 88, 89, 90, 91, 92] (by decide +kernel) (by decide +kernel)
set_option maxRecDepth 20000 in
theorem gX0_lashMixed_X0_askAbove : GoodIn wsX0_lashMixed (wsV RX0 81 RX0 yX0_askAbove wsX0_askAbove) := goodIn_app (goodIn_of _ (by decide +kernel)) ggX0_lashMixed_X0_askAbove
set_option maxRecDepth 20000 in
theorem ggX0_lashMixed_X0_takes : GoodIn wsX0_lashMixed wsX0_takes := goodIn_r _ [9, 10, 88, 89, 90] (by decide +kernel) (by decide +kernel)
set_option maxRecDepth 20000 in
theorem gX0_lashMixed_X0_takes : GoodIn wsX0_lashMixed (wsV RX0 99 RX0 yX0_takes wsX0_takes) := goodIn_app (goodIn_of _ (by decide +kernel)) ggX0_lashMixed_X0_takes
theorem dX0_lashMixed_0 : decode cX0_lashMixed 0 = .ok (.aload_n 0, 1) := by decide +kernel
theorem dX0_lashMixed_1 : decode cX0_lashMixed 1 = .ok (.aload_n 1, 1) := by decide +kernel
theorem dX0_lashMixed_2 : decode cX0_lashMixed 2 = .ok (.bipush 9, 2) := by decide +kernel
theorem dX0_lashMixed_4 : decode cX0_lashMixed 4 = .ok (.iconst 3, 1) := by decide +kernel
theorem dX0_lashMixed_5 : decode cX0_lashMixed 5 = .ok (.iload_n 2, 1) := by decide +kernel
theorem dX0_lashMixed_6 : decode cX0_lashMixed 6 = .ok (.iload_n 3, 1) := by decide +kernel
theorem dX0_lashMixed_7 : decode cX0_lashMixed 7 = .ok (.invokevirtual 81, 3) := by decide +kernel
theorem dX0_lashMixed_10 : decode cX0_lashMixed 10 = .ok (.istore 4, 2) := by decide +kernel
theorem dX0_lashMixed_12 : decode cX0_lashMixed 12 = .ok (.aload_n 0, 1) := by decide +kernel
theorem dX0_lashMixed_13 : decode cX0_lashMixed 13 = .ok (.iconst 4, 1) := by decide +kernel
theorem dX0_lashMixed_14 : decode cX0_lashMixed 14 = .ok (.invokevirtual 99, 3) := by decide +kernel
theorem dX0_lashMixed_17 : decode cX0_lashMixed 17 = .ok (.ifCond .ne 6, 3) := by decide +kernel
theorem dX0_lashMixed_20 : decode cX0_lashMixed 20 = .ok (.iload 4, 2) := by decide +kernel
theorem dX0_lashMixed_22 : decode cX0_lashMixed 22 = .ok (.ireturn, 1) := by decide +kernel
theorem dX0_lashMixed_23 : decode cX0_lashMixed 23 = .ok (.aload_n 1, 1) := by decide +kernel
theorem dX0_lashMixed_24 : decode cX0_lashMixed 24 = .ok (.iconst 0, 1) := by decide +kernel
theorem dX0_lashMixed_25 : decode cX0_lashMixed 25 = .ok (.putfield 103, 3) := by decide +kernel
theorem dX0_lashMixed_28 : decode cX0_lashMixed 28 = .ok (.aload_n 0, 1) := by decide +kernel
theorem dX0_lashMixed_29 : decode cX0_lashMixed 29 = .ok (.aload_n 1, 1) := by decide +kernel
theorem dX0_lashMixed_30 : decode cX0_lashMixed 30 = .ok (.bipush 9, 2) := by decide +kernel
theorem dX0_lashMixed_32 : decode cX0_lashMixed 32 = .ok (.iconst 3, 1) := by decide +kernel
theorem dX0_lashMixed_33 : decode cX0_lashMixed 33 = .ok (.iload_n 2, 1) := by decide +kernel
theorem dX0_lashMixed_34 : decode cX0_lashMixed 34 = .ok (.iload_n 3, 1) := by decide +kernel
theorem dX0_lashMixed_35 : decode cX0_lashMixed 35 = .ok (.invokevirtual 81, 3) := by decide +kernel
theorem dX0_lashMixed_38 : decode cX0_lashMixed 38 = .ok (.ireturn, 1) := by decide +kernel
set_option maxRecDepth 20000 in
theorem ggX0_markBody_X0_askAbove : GoodIn wsX0_markBody wsX0_askAbove := goodIn_r _ [7, 8, 9, 10, 11, 12, 13, 6, 14, 15, 16, 17, 18, 19, 20, 21, 3, 4, 5, 22, 23, 24, 25, 2, 26, 27, 28, 29, 30, 31, 32, 33, 34, 35, 36, 37, 38, 39, 40, 41, 1, 0, 42, 43, 44, 45, 46, 47, 48, 49, 50, 51, 52, 53, 54, 55, 56, 57, 58, 59, 60, 61, 62, 63, 64, 65, 66, 67, 68, 69, 70, 71, 72, 73, 74, 75, 76, 77, 78, 79, 80, 81, 82, 83, 84, 85, 86, 87, 88, 89, 90, 91, 92] (by decide +kernel) (by decide +kernel)
set_option maxRecDepth 20000 in
theorem gX0_markBody_X0_askAbove : GoodIn wsX0_markBody (wsV RX0 81 RX0 yX0_askAbove wsX0_askAbove) := goodIn_app (goodIn_of _ (by decide +kernel)) ggX0_markBody_X0_askAbove
theorem dX0_markBody_0 : decode cX0_markBody 0 = .ok (.iload_n 2, 1) := by decide +kernel
theorem dX0_markBody_1 : decode cX0_markBody 1 = .ok (.ifCond .ne 11, 3) := by decide +kernel
theorem dX0_markBody_4 : decode cX0_markBody 4 = .ok (.aload_n 1, 1) := by decide +kernel
theorem dX0_markBody_5 : decode cX0_markBody 5 = .ok (.getfield 80, 3) := by decide +kernel
theorem dX0_markBody_8 : decode cX0_markBody 8 = .ok (.bipush 10, 2) := by decide +kernel
theorem dX0_markBody_10 : decode cX0_markBody 10 = .ok (.irem, 1) := by decide +kernel
theorem dX0_markBody_11 : decode cX0_markBody 11 = .ok (.ireturn, 1) := by decide +kernel
theorem dX0_markBody_12 : decode cX0_markBody 12 = .ok (.aload_n 0, 1) := by decide +kernel
theorem dX0_markBody_13 : decode cX0_markBody 13 = .ok (.aload_n 1, 1) := by decide +kernel
theorem dX0_markBody_14 : decode cX0_markBody 14 = .ok (.iload_n 2, 1) := by decide +kernel
theorem dX0_markBody_15 : decode cX0_markBody 15 = .ok (.iconst 4, 1) := by decide +kernel
theorem dX0_markBody_16 : decode cX0_markBody 16 = .ok (.iconst 0, 1) := by decide +kernel
theorem dX0_markBody_17 : decode cX0_markBody 17 = .ok (.iload_n 3, 1) := by decide +kernel
theorem dX0_markBody_18 : decode cX0_markBody 18 = .ok (.invokevirtual 81, 3) := by decide +kernel
theorem dX0_markBody_21 : decode cX0_markBody 21 = .ok (.istore 4, 2) := by decide +kernel
theorem dX0_markBody_23 : decode cX0_markBody 23 = .ok (.iload_n 2, 1) := by decide +kernel
theorem dX0_markBody_24 : decode cX0_markBody 24 = .ok (.lookupswitch 44 #[(3, 28), (5, 39)], 28) := by decide +kernel
theorem dX0_markBody_52 : decode cX0_markBody 52 = .ok (.iload 4, 2) := by decide +kernel
theorem dX0_markBody_54 : decode cX0_markBody 54 = .ok (.aload_n 1, 1) := by decide +kernel
theorem dX0_markBody_55 : decode cX0_markBody 55 = .ok (.getfield 96, 3) := by decide +kernel
theorem dX0_markBody_58 : decode cX0_markBody 58 = .ok (.bipush 7, 2) := by decide +kernel
theorem dX0_markBody_60 : decode cX0_markBody 60 = .ok (.irem, 1) := by decide +kernel
theorem dX0_markBody_61 : decode cX0_markBody 61 = .ok (.iadd, 1) := by decide +kernel
theorem dX0_markBody_62 : decode cX0_markBody 62 = .ok (.ireturn, 1) := by decide +kernel
theorem dX0_markBody_63 : decode cX0_markBody 63 = .ok (.iconst 2, 1) := by decide +kernel
theorem dX0_markBody_64 : decode cX0_markBody 64 = .ok (.iload 4, 2) := by decide +kernel
theorem dX0_markBody_66 : decode cX0_markBody 66 = .ok (.imul, 1) := by decide +kernel
theorem dX0_markBody_67 : decode cX0_markBody 67 = .ok (.ireturn, 1) := by decide +kernel
theorem dX0_markBody_68 : decode cX0_markBody 68 = .ok (.iload 4, 2) := by decide +kernel
theorem dX0_markBody_70 : decode cX0_markBody 70 = .ok (.iconst 5, 1) := by decide +kernel
theorem dX0_markBody_71 : decode cX0_markBody 71 = .ok (.iadd, 1) := by decide +kernel
theorem dX0_markBody_72 : decode cX0_markBody 72 = .ok (.ireturn, 1) := by decide +kernel
set_option maxRecDepth 20000 in
theorem ggX0_pullBody_X0_askAbove : GoodIn wsX0_pullBody wsX0_askAbove := goodIn_r _ [8, 9, 10, 11, 12, 13, 14, 4, 15, 16, 17, 18, 19, 20, 21, 22, 1, 2, 3, 5, 6, 7, 23, 24, 25, 26, 27, 28, 29, 30, 31, 32, 33, 34, 35, 36, 37, 38, 39, 40, 41, 42, 0, 43, 44, 45, 46, 47, 48, 49, 50, 51, 52, 53, 54, 55, 56, 57, 58, 59, 60, 61, 62, 63, 64, 65, 66, 67, 68, 69, 70, 71, 72, 73, 74, 75, 76, 77, 78, 79, 80, 81, 82, 83, 84, 85, 86, 87, 88, 89, 90, 91, 92] (by decide +kernel) (by decide +kernel)
set_option maxRecDepth 20000 in
theorem gX0_pullBody_X0_askAbove : GoodIn wsX0_pullBody (wsV RX0 81 RX0 yX0_askAbove wsX0_askAbove) := goodIn_app (goodIn_of _ (by decide +kernel)) ggX0_pullBody_X0_askAbove
set_option maxRecDepth 20000 in
theorem ggX0_pullBody_X0_askVehicle : GoodIn wsX0_pullBody wsX0_askVehicle := goodIn_r _ [15, 16, 12, 13, 14, 4, 8, 9, 10, 11, 17, 18, 19, 20, 21, 22, 1, 2, 3, 5, 6, 7, 23, 24, 25, 26, 27, 28, 29, 30, 31, 32, 33, 34, 35, 36, 37, 38, 39, 40, 41, 42, 0, 43, 44, 45, 46, 47, 48, 49, 50, 51, 52, 53, 54, 55, 56, 57, 58, 59, 60, 61, 62, 63, 64, 65, 66, 67, 68, 69, 70, 71, 72, 73, 74, 75, 76, 77, 78, 79, 80, 81, 82, 83, 84, 85, 86, 87, 88, 89, 90, 91, 92] (by decide +kernel) (by decide +kernel)
set_option maxRecDepth 20000 in
theorem gX0_pullBody_X0_askVehicle : GoodIn wsX0_pullBody (wsV RX0 89 RX0 yX0_askVehicle wsX0_askVehicle) := goodIn_app (goodIn_of _ (by decide +kernel)) ggX0_pullBody_X0_askVehicle
theorem dX0_pullBody_0 : decode cX0_pullBody 0 = .ok (.iload_n 2, 1) := by decide +kernel
theorem dX0_pullBody_1 : decode cX0_pullBody 1 = .ok (.iconst 5, 1) := by decide +kernel
theorem dX0_pullBody_2 : decode cX0_pullBody 2 = .ok (.if_icmp .ne 16, 3) := by decide +kernel
theorem dX0_pullBody_5 : decode cX0_pullBody 5 = .ok (.aload_n 0, 1) := by decide +kernel
theorem dX0_pullBody_6 : decode cX0_pullBody 6 = .ok (.aload_n 1, 1) := by decide +kernel
theorem dX0_pullBody_7 : decode cX0_pullBody 7 = .ok (.iload_n 2, 1) := by decide +kernel
theorem dX0_pullBody_8 : decode cX0_pullBody 8 = .ok (.iconst 5, 1) := by decide +kernel
theorem dX0_pullBody_9 : decode cX0_pullBody 9 = .ok (.iload_n 3, 1) := by decide +kernel
theorem dX0_pullBody_10 : decode cX0_pullBody 10 = .ok (.iconst 1, 1) := by decide +kernel
theorem dX0_pullBody_11 : decode cX0_pullBody 11 = .ok (.iadd, 1) := by decide +kernel
theorem dX0_pullBody_12 : decode cX0_pullBody 12 = .ok (.iload 4, 2) := by decide +kernel
theorem dX0_pullBody_14 : decode cX0_pullBody 14 = .ok (.invokevirtual 81, 3) := by decide +kernel
theorem dX0_pullBody_17 : decode cX0_pullBody 17 = .ok (.ireturn, 1) := by decide +kernel
theorem dX0_pullBody_18 : decode cX0_pullBody 18 = .ok (.aload_n 0, 1) := by decide +kernel
theorem dX0_pullBody_19 : decode cX0_pullBody 19 = .ok (.aload_n 1, 1) := by decide +kernel
theorem dX0_pullBody_20 : decode cX0_pullBody 20 = .ok (.bipush 6, 2) := by decide +kernel
theorem dX0_pullBody_22 : decode cX0_pullBody 22 = .ok (.iconst 0, 1) := by decide +kernel
theorem dX0_pullBody_23 : decode cX0_pullBody 23 = .ok (.iload 4, 2) := by decide +kernel
theorem dX0_pullBody_25 : decode cX0_pullBody 25 = .ok (.invokevirtual 89, 3) := by decide +kernel
theorem dX0_pullBody_28 : decode cX0_pullBody 28 = .ok (.istore 5, 2) := by decide +kernel
theorem dX0_pullBody_30 : decode cX0_pullBody 30 = .ok (.iload 5, 2) := by decide +kernel
theorem dX0_pullBody_32 : decode cX0_pullBody 32 = .ok (.iload_n 3, 1) := by decide +kernel
theorem dX0_pullBody_33 : decode cX0_pullBody 33 = .ok (.imul, 1) := by decide +kernel
theorem dX0_pullBody_34 : decode cX0_pullBody 34 = .ok (.aload_n 0, 1) := by decide +kernel
theorem dX0_pullBody_35 : decode cX0_pullBody 35 = .ok (.aload_n 1, 1) := by decide +kernel
theorem dX0_pullBody_36 : decode cX0_pullBody 36 = .ok (.iconst 4, 1) := by decide +kernel
theorem dX0_pullBody_37 : decode cX0_pullBody 37 = .ok (.iconst 0, 1) := by decide +kernel
theorem dX0_pullBody_38 : decode cX0_pullBody 38 = .ok (.iload 4, 2) := by decide +kernel
theorem dX0_pullBody_40 : decode cX0_pullBody 40 = .ok (.invokevirtual 89, 3) := by decide +kernel
theorem dX0_pullBody_43 : decode cX0_pullBody 43 = .ok (.iadd, 1) := by decide +kernel
theorem dX0_pullBody_44 : decode cX0_pullBody 44 = .ok (.ireturn, 1) := by decide +kernel
set_option maxRecDepth 20000 in
theorem ggX0_hookBody_X0_askAbove : GoodIn wsX0_hookBody wsX0_askAbove := goodIn_r _ [7, 8, 9, 10, 11, 12, 13, 6, 14, 15, 16, 1, 17, 18, 19, 20, 3, 4, 5, 21, 22, 23, 0, 2, 24, 25, 26, 27, 28, 29, 30, 31, 32, 33, 34, 35, 36, 37, 38, 39, 40, 41, 42, 43, 44, 45, 46, 47, 48, 49, 50, 51, 52, 53, 54, 55, 56, 57, 58, 59, 60, 61, 62, 63, 64, 65, 66, 67, 68, 69, 70, 71, 72, 73, 74, 75, 76, 77, 78, 79, 80, 81, 82, 83, 84, 85, 86, 87, 88, 89, 90, 91, 92] (by decide +kernel) (by decide +kernel)
set_option maxRecDepth 20000 in
theorem gX0_hookBody_X0_askAbove : GoodIn wsX0_hookBody (wsV RX0 81 RX0 yX0_askAbove wsX0_askAbove) := goodIn_app (goodIn_of _ (by decide +kernel)) ggX0_hookBody_X0_askAbove
theorem dX0_hookBody_0 : decode cX0_hookBody 0 = .ok (.iload_n 2, 1) := by decide +kernel
theorem dX0_hookBody_1 : decode cX0_hookBody 1 = .ok (.tableswitch 65 3 7 #[35, 65, 37, 65, 56], 35) := by decide +kernel
theorem dX0_hookBody_36 : decode cX0_hookBody 36 = .ok (.iconst 3, 1) := by decide +kernel
theorem dX0_hookBody_37 : decode cX0_hookBody 37 = .ok (.ireturn, 1) := by decide +kernel
theorem dX0_hookBody_38 : decode cX0_hookBody 38 = .ok (.aload_n 0, 1) := by decide +kernel
theorem dX0_hookBody_39 : decode cX0_hookBody 39 = .ok (.aload_n 1, 1) := by decide +kernel
theorem dX0_hookBody_40 : decode cX0_hookBody 40 = .ok (.iload_n 2, 1) := by decide +kernel
theorem dX0_hookBody_41 : decode cX0_hookBody 41 = .ok (.bipush 6, 2) := by decide +kernel
theorem dX0_hookBody_43 : decode cX0_hookBody 43 = .ok (.iconst 0, 1) := by decide +kernel
theorem dX0_hookBody_44 : decode cX0_hookBody 44 = .ok (.iload_n 3, 1) := by decide +kernel
theorem dX0_hookBody_45 : decode cX0_hookBody 45 = .ok (.invokevirtual 81, 3) := by decide +kernel
theorem dX0_hookBody_48 : decode cX0_hookBody 48 = .ok (.aload_n 0, 1) := by decide +kernel
theorem dX0_hookBody_49 : decode cX0_hookBody 49 = .ok (.getfield 9, 3) := by decide +kernel
theorem dX0_hookBody_52 : decode cX0_hookBody 52 = .ok (.bipush 6, 2) := by decide +kernel
theorem dX0_hookBody_54 : decode cX0_hookBody 54 = .ok (.iaload, 1) := by decide +kernel
theorem dX0_hookBody_55 : decode cX0_hookBody 55 = .ok (.iadd, 1) := by decide +kernel
theorem dX0_hookBody_56 : decode cX0_hookBody 56 = .ok (.ireturn, 1) := by decide +kernel
theorem dX0_hookBody_57 : decode cX0_hookBody 57 = .ok (.aload_n 1, 1) := by decide +kernel
theorem dX0_hookBody_58 : decode cX0_hookBody 58 = .ok (.getfield 96, 3) := by decide +kernel
theorem dX0_hookBody_61 : decode cX0_hookBody 61 = .ok (.sipush 1000, 3) := by decide +kernel
theorem dX0_hookBody_64 : decode cX0_hookBody 64 = .ok (.idiv, 1) := by decide +kernel
theorem dX0_hookBody_65 : decode cX0_hookBody 65 = .ok (.ireturn, 1) := by decide +kernel
theorem dX0_hookBody_66 : decode cX0_hookBody 66 = .ok (.aload_n 0, 1) := by decide +kernel
theorem dX0_hookBody_67 : decode cX0_hookBody 67 = .ok (.aload_n 1, 1) := by decide +kernel
theorem dX0_hookBody_68 : decode cX0_hookBody 68 = .ok (.iload_n 2, 1) := by decide +kernel
theorem dX0_hookBody_69 : decode cX0_hookBody 69 = .ok (.bipush 6, 2) := by decide +kernel
theorem dX0_hookBody_71 : decode cX0_hookBody 71 = .ok (.iconst 0, 1) := by decide +kernel
theorem dX0_hookBody_72 : decode cX0_hookBody 72 = .ok (.iload_n 3, 1) := by decide +kernel
theorem dX0_hookBody_73 : decode cX0_hookBody 73 = .ok (.invokevirtual 81, 3) := by decide +kernel
theorem dX0_hookBody_76 : decode cX0_hookBody 76 = .ok (.aload_n 0, 1) := by decide +kernel
theorem dX0_hookBody_77 : decode cX0_hookBody 77 = .ok (.aload_n 1, 1) := by decide +kernel
theorem dX0_hookBody_78 : decode cX0_hookBody 78 = .ok (.iload_n 2, 1) := by decide +kernel
theorem dX0_hookBody_79 : decode cX0_hookBody 79 = .ok (.bipush 6, 2) := by decide +kernel
theorem dX0_hookBody_81 : decode cX0_hookBody 81 = .ok (.iconst 0, 1) := by decide +kernel
theorem dX0_hookBody_82 : decode cX0_hookBody 82 = .ok (.iload_n 3, 1) := by decide +kernel
theorem dX0_hookBody_83 : decode cX0_hookBody 83 = .ok (.invokevirtual 81, 3) := by decide +kernel
theorem dX0_hookBody_86 : decode cX0_hookBody 86 = .ok (.iadd, 1) := by decide +kernel
theorem dX0_hookBody_87 : decode cX0_hookBody 87 = .ok (.ireturn, 1) := by decide +kernel
theorem dX1_init_0 : decode cX1_init 0 = .ok (.aload_n 0, 1) := by decide +kernel
theorem dX1_init_1 : decode cX1_init 1 = .ok (.invokespecial 1, 3) := by decide +kernel
theorem dX1_init_4 : decode cX1_init 4 = .ok (.return_, 1) := by decide +kernel
theorem dX1_left_0 : decode cX1_left 0 = .ok (.aload_n 0, 1) := by decide +kernel
theorem dX1_left_1 : decode cX1_left 1 = .ok (.getfield 7, 3) := by decide +kernel
theorem dX1_left_4 : decode cX1_left 4 = .ok (.aload_n 0, 1) := by decide +kernel
theorem dX1_left_5 : decode cX1_left 5 = .ok (.getfield 13, 3) := by decide +kernel
theorem dX1_left_8 : decode cX1_left 8 = .ok (.isub, 1) := by decide +kernel
theorem dX1_left_9 : decode cX1_left 9 = .ok (.ireturn, 1) := by decide +kernel
theorem dX1_receive_0 : decode cX1_receive 0 = .ok (.aload_n 0, 1) := by decide +kernel
theorem dX1_receive_1 : decode cX1_receive 1 = .ok (.dup, 1) := by decide +kernel
theorem dX1_receive_2 : decode cX1_receive 2 = .ok (.getfield 13, 3) := by decide +kernel
theorem dX1_receive_5 : decode cX1_receive 5 = .ok (.iload_n 1, 1) := by decide +kernel
theorem dX1_receive_6 : decode cX1_receive 6 = .ok (.iadd, 1) := by decide +kernel
theorem dX1_receive_7 : decode cX1_receive 7 = .ok (.putfield 13, 3) := by decide +kernel
theorem dX1_receive_10 : decode cX1_receive 10 = .ok (.aload_n 0, 1) := by decide +kernel
theorem dX1_receive_11 : decode cX1_receive 11 = .ok (.dup, 1) := by decide +kernel
theorem dX1_receive_12 : decode cX1_receive 12 = .ok (.getfield 16, 3) := by decide +kernel
theorem dX1_receive_15 : decode cX1_receive 15 = .ok (.iconst 1, 1) := by decide +kernel
theorem dX1_receive_16 : decode cX1_receive 16 = .ok (.iadd, 1) := by decide +kernel
theorem dX1_receive_17 : decode cX1_receive 17 = .ok (.putfield 16, 3) := by decide +kernel
theorem dX1_receive_20 : decode cX1_receive 20 = .ok (.return_, 1) := by decide +kernel
theorem dX1_release_0 : decode cX1_release 0 = .ok (.aload_n 0, 1) := by decide +kernel
theorem dX1_release_1 : decode cX1_release 1 = .ok (.dup, 1) := by decide +kernel
theorem dX1_release_2 : decode cX1_release 2 = .ok (.getfield 13, 3) := by decide +kernel
theorem dX1_release_5 : decode cX1_release 5 = .ok (.iload_n 1, 1) := by decide +kernel
theorem dX1_release_6 : decode cX1_release 6 = .ok (.isub, 1) := by decide +kernel
theorem dX1_release_7 : decode cX1_release 7 = .ok (.putfield 13, 3) := by decide +kernel
theorem dX1_release_10 : decode cX1_release 10 = .ok (.aload_n 0, 1) := by decide +kernel
theorem dX1_release_11 : decode cX1_release 11 = .ok (.dup, 1) := by decide +kernel
theorem dX1_release_12 : decode cX1_release 12 = .ok (.getfield 16, 3) := by decide +kernel
theorem dX1_release_15 : decode cX1_release 15 = .ok (.iconst 1, 1) := by decide +kernel
theorem dX1_release_16 : decode cX1_release 16 = .ok (.isub, 1) := by decide +kernel
theorem dX1_release_17 : decode cX1_release 17 = .ok (.putfield 16, 3) := by decide +kernel
theorem dX1_release_20 : decode cX1_release 20 = .ok (.return_, 1) := by decide +kernel
theorem dX2_init_0 : decode cX2_init 0 = .ok (.aload_n 0, 1) := by decide +kernel
theorem dX2_init_1 : decode cX2_init 1 = .ok (.invokespecial 3, 3) := by decide +kernel
theorem dX2_init_4 : decode cX2_init 4 = .ok (.aload_n 0, 1) := by decide +kernel
theorem dX2_init_5 : decode cX2_init 5 = .ok (.sipush 400, 3) := by decide +kernel
theorem dX2_init_8 : decode cX2_init 8 = .ok (.newarray .int, 2) := by decide +kernel
theorem dX2_init_10 : decode cX2_init 10 = .ok (.putfield 9, 3) := by decide +kernel
theorem dX2_init_13 : decode cX2_init 13 = .ok (.return_, 1) := by decide +kernel
set_option maxRecDepth 20000 in
theorem ggX2_has_X4_within : GoodIn wsX2_has wsX4_within := goodIn_r _ [4] (by decide +kernel) (by decide +kernel)
set_option maxRecDepth 20000 in
theorem gX2_has_X4_within_n19 : GoodIn wsX2_has (wsX4_within) := ggX2_has_X4_within
theorem dX2_has_0 : decode cX2_has 0 = .ok (.iload_n 1, 1) := by decide +kernel
theorem dX2_has_1 : decode cX2_has 1 = .ok (.iconst 0, 1) := by decide +kernel
theorem dX2_has_2 : decode cX2_has 2 = .ok (.aload_n 0, 1) := by decide +kernel
theorem dX2_has_3 : decode cX2_has 3 = .ok (.getfield 15, 3) := by decide +kernel
theorem dX2_has_6 : decode cX2_has 6 = .ok (.iconst 1, 1) := by decide +kernel
theorem dX2_has_7 : decode cX2_has 7 = .ok (.isub, 1) := by decide +kernel
theorem dX2_has_8 : decode cX2_has 8 = .ok (.invokestatic 19, 3) := by decide +kernel
theorem dX2_has_11 : decode cX2_has 11 = .ok (.ireturn, 1) := by decide +kernel
theorem dX2_write_0 : decode cX2_write 0 = .ok (.aload_n 0, 1) := by decide +kernel
theorem dX2_write_1 : decode cX2_write 1 = .ok (.getfield 15, 3) := by decide +kernel
theorem dX2_write_4 : decode cX2_write 4 = .ok (.sipush 400, 3) := by decide +kernel
theorem dX2_write_7 : decode cX2_write 7 = .ok (.if_icmp .ge 23, 3) := by decide +kernel
theorem dX2_write_10 : decode cX2_write 10 = .ok (.aload_n 0, 1) := by decide +kernel
theorem dX2_write_11 : decode cX2_write 11 = .ok (.getfield 9, 3) := by decide +kernel
theorem dX2_write_14 : decode cX2_write 14 = .ok (.aload_n 0, 1) := by decide +kernel
theorem dX2_write_15 : decode cX2_write 15 = .ok (.getfield 15, 3) := by decide +kernel
theorem dX2_write_18 : decode cX2_write 18 = .ok (.iload_n 1, 1) := by decide +kernel
theorem dX2_write_19 : decode cX2_write 19 = .ok (.iastore, 1) := by decide +kernel
theorem dX2_write_20 : decode cX2_write 20 = .ok (.aload_n 0, 1) := by decide +kernel
theorem dX2_write_21 : decode cX2_write 21 = .ok (.dup, 1) := by decide +kernel
theorem dX2_write_22 : decode cX2_write 22 = .ok (.getfield 15, 3) := by decide +kernel
theorem dX2_write_25 : decode cX2_write 25 = .ok (.iconst 1, 1) := by decide +kernel
theorem dX2_write_26 : decode cX2_write 26 = .ok (.iadd, 1) := by decide +kernel
theorem dX2_write_27 : decode cX2_write 27 = .ok (.putfield 15, 3) := by decide +kernel
theorem dX2_write_30 : decode cX2_write 30 = .ok (.return_, 1) := by decide +kernel
theorem dX3_init_0 : decode cX3_init 0 = .ok (.aload_n 0, 1) := by decide +kernel
theorem dX3_init_1 : decode cX3_init 1 = .ok (.invokespecial 3, 3) := by decide +kernel
theorem dX3_init_4 : decode cX3_init 4 = .ok (.aload_n 0, 1) := by decide +kernel
theorem dX3_init_5 : decode cX3_init 5 = .ok (.iload_n 1, 1) := by decide +kernel
theorem dX3_init_6 : decode cX3_init 6 = .ok (.putfield 9, 3) := by decide +kernel
theorem dX3_init_9 : decode cX3_init 9 = .ok (.aload_n 0, 1) := by decide +kernel
theorem dX3_init_10 : decode cX3_init 10 = .ok (.iload_n 2, 1) := by decide +kernel
theorem dX3_init_11 : decode cX3_init 11 = .ok (.putfield 15, 3) := by decide +kernel
theorem dX3_init_14 : decode cX3_init 14 = .ok (.aload_n 0, 1) := by decide +kernel
theorem dX3_init_15 : decode cX3_init 15 = .ok (.iload_n 3, 1) := by decide +kernel
theorem dX3_init_16 : decode cX3_init 16 = .ok (.putfield 18, 3) := by decide +kernel
theorem dX3_init_19 : decode cX3_init 19 = .ok (.aload_n 0, 1) := by decide +kernel
theorem dX3_init_20 : decode cX3_init 20 = .ok (.iconst (-1), 1) := by decide +kernel
theorem dX3_init_21 : decode cX3_init 21 = .ok (.putfield 21, 3) := by decide +kernel
theorem dX3_init_24 : decode cX3_init 24 = .ok (.return_, 1) := by decide +kernel
theorem dX3_goAshore_0 : decode cX3_goAshore 0 = .ok (.aload_n 0, 1) := by decide +kernel
theorem dX3_goAshore_1 : decode cX3_goAshore 1 = .ok (.iconst 0, 1) := by decide +kernel
theorem dX3_goAshore_2 : decode cX3_goAshore 2 = .ok (.putfield 24, 3) := by decide +kernel
theorem dX3_goAshore_5 : decode cX3_goAshore 5 = .ok (.aload_n 0, 1) := by decide +kernel
theorem dX3_goAshore_6 : decode cX3_goAshore 6 = .ok (.iconst (-1), 1) := by decide +kernel
theorem dX3_goAshore_7 : decode cX3_goAshore 7 = .ok (.putfield 21, 3) := by decide +kernel
theorem dX3_goAshore_10 : decode cX3_goAshore 10 = .ok (.aload_n 0, 1) := by decide +kernel
theorem dX3_goAshore_11 : decode cX3_goAshore 11 = .ok (.iconst 0, 1) := by decide +kernel
theorem dX3_goAshore_12 : decode cX3_goAshore 12 = .ok (.putfield 27, 3) := by decide +kernel
theorem dX3_goAshore_15 : decode cX3_goAshore 15 = .ok (.return_, 1) := by decide +kernel
set_option maxRecDepth 20000 in
theorem ggX4_init_X1_init : GoodIn wsX4_init wsX1_init := goodIn_r _ [15, 16, 2, 3] (by decide +kernel) (by decide +kernel)
set_option maxRecDepth 20000 in
theorem gX4_init_X1_init_n21 : GoodIn wsX4_init (wsX1_init) := ggX4_init_X1_init
set_option maxRecDepth 20000 in
theorem ggX4_init_X0_init : GoodIn wsX4_init wsX0_init := goodIn_r _ [18, 19, 2, 3, 20, 21, 22, 23, 24, 25, 26, 27, 28, 29, 42, 43, 44, 45, 46] (by decide +kernel) (by decide +kernel)
set_option maxRecDepth 20000 in
theorem gX4_init_X0_init_n24 : GoodIn wsX4_init (wsX0_init) := ggX4_init_X0_init
theorem dX4_init_0 : decode cX4_init 0 = .ok (.aload_n 0, 1) := by decide +kernel
theorem dX4_init_1 : decode cX4_init 1 = .ok (.invokespecial 3, 3) := by decide +kernel
theorem dX4_init_4 : decode cX4_init 4 = .ok (.aload_n 0, 1) := by decide +kernel
theorem dX4_init_5 : decode cX4_init 5 = .ok (.bipush 70, 2) := by decide +kernel
theorem dX4_init_7 : decode cX4_init 7 = .ok (.anewarray 9, 3) := by decide +kernel
theorem dX4_init_10 : decode cX4_init 10 = .ok (.putfield 11, 3) := by decide +kernel
theorem dX4_init_13 : decode cX4_init 13 = .ok (.aload_n 0, 1) := by decide +kernel
theorem dX4_init_14 : decode cX4_init 14 = .ok (.iconst 3, 1) := by decide +kernel
theorem dX4_init_15 : decode cX4_init 15 = .ok (.anewarray 15, 3) := by decide +kernel
theorem dX4_init_18 : decode cX4_init 18 = .ok (.putfield 17, 3) := by decide +kernel
theorem dX4_init_21 : decode cX4_init 21 = .ok (.iconst 0, 1) := by decide +kernel
theorem dX4_init_22 : decode cX4_init 22 = .ok (.istore_n 1, 1) := by decide +kernel
theorem dX4_init_23 : decode cX4_init 23 = .ok (.iload_n 1, 1) := by decide +kernel
theorem dX4_init_24 : decode cX4_init 24 = .ok (.iconst 3, 1) := by decide +kernel
theorem dX4_init_25 : decode cX4_init 25 = .ok (.if_icmp .ge 22, 3) := by decide +kernel
theorem dX4_init_28 : decode cX4_init 28 = .ok (.aload_n 0, 1) := by decide +kernel
theorem dX4_init_29 : decode cX4_init 29 = .ok (.getfield 17, 3) := by decide +kernel
theorem dX4_init_32 : decode cX4_init 32 = .ok (.iload_n 1, 1) := by decide +kernel
theorem dX4_init_33 : decode cX4_init 33 = .ok (.new 15, 3) := by decide +kernel
theorem dX4_init_36 : decode cX4_init 36 = .ok (.dup, 1) := by decide +kernel
theorem dX4_init_37 : decode cX4_init 37 = .ok (.invokespecial 21, 3) := by decide +kernel
theorem dX4_init_40 : decode cX4_init 40 = .ok (.aastore, 1) := by decide +kernel
theorem dX4_init_41 : decode cX4_init 41 = .ok (.iinc 1 1, 3) := by decide +kernel
theorem dX4_init_44 : decode cX4_init 44 = .ok (.goto (-21), 3) := by decide +kernel
theorem dX4_init_47 : decode cX4_init 47 = .ok (.aload_n 0, 1) := by decide +kernel
theorem dX4_init_48 : decode cX4_init 48 = .ok (.new 22, 3) := by decide +kernel
theorem dX4_init_51 : decode cX4_init 51 = .ok (.dup, 1) := by decide +kernel
theorem dX4_init_52 : decode cX4_init 52 = .ok (.invokespecial 24, 3) := by decide +kernel
theorem dX4_init_55 : decode cX4_init 55 = .ok (.putfield 25, 3) := by decide +kernel
theorem dX4_init_58 : decode cX4_init 58 = .ok (.return_, 1) := by decide +kernel
set_option maxRecDepth 20000 in
theorem ggX4_term_X4_within : GoodIn wsX4_term wsX4_within := goodIn_r _ [6] (by decide +kernel) (by decide +kernel)
set_option maxRecDepth 20000 in
theorem gX4_term_X4_within : GoodIn wsX4_term (va_wsS RX4 29 yX4_within wsX4_within) := goodIn_app (goodIn_of _ (by decide +kernel)) ggX4_term_X4_within
theorem dX4_term_0 : decode cX4_term 0 = .ok (.iload_n 1, 1) := by decide +kernel
theorem dX4_term_1 : decode cX4_term 1 = .ok (.iconst 0, 1) := by decide +kernel
theorem dX4_term_2 : decode cX4_term 2 = .ok (.bipush 7, 2) := by decide +kernel
theorem dX4_term_4 : decode cX4_term 4 = .ok (.invokestatic 29, 3) := by decide +kernel
theorem dX4_term_7 : decode cX4_term 7 = .ok (.ifCond .eq 14, 3) := by decide +kernel
theorem dX4_term_10 : decode cX4_term 10 = .ok (.iload_n 2, 1) := by decide +kernel
theorem dX4_term_11 : decode cX4_term 11 = .ok (.iconst 0, 1) := by decide +kernel
theorem dX4_term_12 : decode cX4_term 12 = .ok (.sipush 1000, 3) := by decide +kernel
theorem dX4_term_15 : decode cX4_term 15 = .ok (.invokestatic 29, 3) := by decide +kernel
theorem dX4_term_18 : decode cX4_term 18 = .ok (.ifCond .ne 5, 3) := by decide +kernel
theorem dX4_term_21 : decode cX4_term 21 = .ok (.iconst (-1), 1) := by decide +kernel
theorem dX4_term_22 : decode cX4_term 22 = .ok (.ireturn, 1) := by decide +kernel
theorem dX4_term_23 : decode cX4_term 23 = .ok (.aload_n 0, 1) := by decide +kernel
theorem dX4_term_24 : decode cX4_term 24 = .ok (.getfield 25, 3) := by decide +kernel
theorem dX4_term_27 : decode cX4_term 27 = .ok (.getfield 33, 3) := by decide +kernel
theorem dX4_term_30 : decode cX4_term 30 = .ok (.iload_n 1, 1) := by decide +kernel
theorem dX4_term_31 : decode cX4_term 31 = .ok (.iaload, 1) := by decide +kernel
theorem dX4_term_32 : decode cX4_term 32 = .ok (.istore_n 3, 1) := by decide +kernel
theorem dX4_term_33 : decode cX4_term 33 = .ok (.aload_n 0, 1) := by decide +kernel
theorem dX4_term_34 : decode cX4_term 34 = .ok (.getfield 25, 3) := by decide +kernel
theorem dX4_term_37 : decode cX4_term 37 = .ok (.getfield 33, 3) := by decide +kernel
theorem dX4_term_40 : decode cX4_term 40 = .ok (.iload_n 1, 1) := by decide +kernel
theorem dX4_term_41 : decode cX4_term 41 = .ok (.iload_n 2, 1) := by decide +kernel
theorem dX4_term_42 : decode cX4_term 42 = .ok (.iastore, 1) := by decide +kernel
theorem dX4_term_43 : decode cX4_term 43 = .ok (.iload_n 3, 1) := by decide +kernel
theorem dX4_term_44 : decode cX4_term 44 = .ok (.ireturn, 1) := by decide +kernel
set_option maxRecDepth 20000 in
theorem ggX4_deck_X4_deckAt : GoodIn wsX4_deck wsX4_deckAt := goodIn_r _ [7, 8, 9, 10, 6, 11, 15, 16, 17, 18, 19, 20, 21, 22, 23] (by decide +kernel) (by decide +kernel)
set_option maxRecDepth 20000 in
theorem gX4_deck_X4_deckAt : GoodIn wsX4_deck (wsV RX4 37 RX4 yX4_deckAt wsX4_deckAt) := goodIn_app (goodIn_of _ (by decide +kernel)) ggX4_deck_X4_deckAt
set_option maxRecDepth 20000 in
theorem ggX4_deck_X4_within : GoodIn wsX4_deck wsX4_within := goodIn_r _ [11] (by decide +kernel) (by decide +kernel)
set_option maxRecDepth 20000 in
theorem gX4_deck_X4_within : GoodIn wsX4_deck (va_wsS RX4 29 yX4_within wsX4_within) := goodIn_app (goodIn_of _ (by decide +kernel)) ggX4_deck_X4_within
theorem dX4_deck_0 : decode cX4_deck 0 = .ok (.aload_n 0, 1) := by decide +kernel
theorem dX4_deck_1 : decode cX4_deck 1 = .ok (.iload_n 1, 1) := by decide +kernel
theorem dX4_deck_2 : decode cX4_deck 2 = .ok (.invokevirtual 37, 3) := by decide +kernel
theorem dX4_deck_5 : decode cX4_deck 5 = .ok (.astore_n 3, 1) := by decide +kernel
theorem dX4_deck_6 : decode cX4_deck 6 = .ok (.aload_n 3, 1) := by decide +kernel
theorem dX4_deck_7 : decode cX4_deck 7 = .ok (.ifnull 14, 3) := by decide +kernel
theorem dX4_deck_10 : decode cX4_deck 10 = .ok (.iload_n 2, 1) := by decide +kernel
theorem dX4_deck_11 : decode cX4_deck 11 = .ok (.iconst 0, 1) := by decide +kernel
theorem dX4_deck_12 : decode cX4_deck 12 = .ok (.sipush 10000, 3) := by decide +kernel
theorem dX4_deck_15 : decode cX4_deck 15 = .ok (.invokestatic 29, 3) := by decide +kernel
theorem dX4_deck_18 : decode cX4_deck 18 = .ok (.ifCond .ne 5, 3) := by decide +kernel
theorem dX4_deck_21 : decode cX4_deck 21 = .ok (.iconst (-1), 1) := by decide +kernel
theorem dX4_deck_22 : decode cX4_deck 22 = .ok (.ireturn, 1) := by decide +kernel
theorem dX4_deck_23 : decode cX4_deck 23 = .ok (.aload_n 3, 1) := by decide +kernel
theorem dX4_deck_24 : decode cX4_deck 24 = .ok (.getfield 41, 3) := by decide +kernel
theorem dX4_deck_27 : decode cX4_deck 27 = .ok (.iload_n 2, 1) := by decide +kernel
theorem dX4_deck_28 : decode cX4_deck 28 = .ok (.if_icmp .le 6, 3) := by decide +kernel
theorem dX4_deck_31 : decode cX4_deck 31 = .ok (.bipush (-4), 2) := by decide +kernel
theorem dX4_deck_33 : decode cX4_deck 33 = .ok (.ireturn, 1) := by decide +kernel
theorem dX4_deck_34 : decode cX4_deck 34 = .ok (.aload_n 3, 1) := by decide +kernel
theorem dX4_deck_35 : decode cX4_deck 35 = .ok (.getfield 45, 3) := by decide +kernel
theorem dX4_deck_38 : decode cX4_deck 38 = .ok (.istore 4, 2) := by decide +kernel
theorem dX4_deck_40 : decode cX4_deck 40 = .ok (.aload_n 3, 1) := by decide +kernel
theorem dX4_deck_41 : decode cX4_deck 41 = .ok (.iload_n 2, 1) := by decide +kernel
theorem dX4_deck_42 : decode cX4_deck 42 = .ok (.putfield 45, 3) := by decide +kernel
theorem dX4_deck_45 : decode cX4_deck 45 = .ok (.iload 4, 2) := by decide +kernel
theorem dX4_deck_47 : decode cX4_deck 47 = .ok (.ireturn, 1) := by decide +kernel
set_option maxRecDepth 20000 in
theorem ggX4_vehicle_X4_within : GoodIn wsX4_vehicle wsX4_within := goodIn_r _ [10] (by decide +kernel) (by decide +kernel)
set_option maxRecDepth 20000 in
theorem gX4_vehicle_X4_within : GoodIn wsX4_vehicle (va_wsS RX4 29 yX4_within wsX4_within) := goodIn_app (goodIn_of _ (by decide +kernel)) ggX4_vehicle_X4_within
set_option maxRecDepth 20000 in
theorem ggX4_vehicle_X3_init : GoodIn wsX4_vehicle wsX3_init := goodIn_r _ [13, 14, 15, 16, 17, 18, 19, 20, 30, 31, 32, 33, 34, 35] (by decide +kernel) (by decide +kernel)
set_option maxRecDepth 20000 in
theorem gX4_vehicle_X3_init : GoodIn wsX4_vehicle (wsX3_init) := ggX4_vehicle_X3_init
theorem dX4_vehicle_0 : decode cX4_vehicle 0 = .ok (.iload_n 1, 1) := by decide +kernel
theorem dX4_vehicle_1 : decode cX4_vehicle 1 = .ok (.iconst 1, 1) := by decide +kernel
theorem dX4_vehicle_2 : decode cX4_vehicle 2 = .ok (.bipush 9, 2) := by decide +kernel
theorem dX4_vehicle_4 : decode cX4_vehicle 4 = .ok (.invokestatic 29, 3) := by decide +kernel
theorem dX4_vehicle_7 : decode cX4_vehicle 7 = .ok (.ifCond .eq 23, 3) := by decide +kernel
theorem dX4_vehicle_10 : decode cX4_vehicle 10 = .ok (.iload_n 2, 1) := by decide +kernel
theorem dX4_vehicle_11 : decode cX4_vehicle 11 = .ok (.iconst 1, 1) := by decide +kernel
theorem dX4_vehicle_12 : decode cX4_vehicle 12 = .ok (.bipush 100, 2) := by decide +kernel
theorem dX4_vehicle_14 : decode cX4_vehicle 14 = .ok (.invokestatic 29, 3) := by decide +kernel
theorem dX4_vehicle_17 : decode cX4_vehicle 17 = .ok (.ifCond .eq 13, 3) := by decide +kernel
theorem dX4_vehicle_20 : decode cX4_vehicle 20 = .ok (.iload_n 3, 1) := by decide +kernel
theorem dX4_vehicle_21 : decode cX4_vehicle 21 = .ok (.iconst 0, 1) := by decide +kernel
theorem dX4_vehicle_22 : decode cX4_vehicle 22 = .ok (.ldc 48, 2) := by decide +kernel
theorem dX4_vehicle_24 : decode cX4_vehicle 24 = .ok (.invokestatic 29, 3) := by decide +kernel
theorem dX4_vehicle_27 : decode cX4_vehicle 27 = .ok (.ifCond .ne 5, 3) := by decide +kernel
theorem dX4_vehicle_30 : decode cX4_vehicle 30 = .ok (.iconst (-1), 1) := by decide +kernel
theorem dX4_vehicle_31 : decode cX4_vehicle 31 = .ok (.ireturn, 1) := by decide +kernel
theorem dX4_vehicle_32 : decode cX4_vehicle 32 = .ok (.aload_n 0, 1) := by decide +kernel
theorem dX4_vehicle_33 : decode cX4_vehicle 33 = .ok (.getfield 49, 3) := by decide +kernel
theorem dX4_vehicle_36 : decode cX4_vehicle 36 = .ok (.bipush 70, 2) := by decide +kernel
theorem dX4_vehicle_38 : decode cX4_vehicle 38 = .ok (.if_icmp .lt 6, 3) := by decide +kernel
theorem dX4_vehicle_41 : decode cX4_vehicle 41 = .ok (.bipush (-2), 2) := by decide +kernel
theorem dX4_vehicle_43 : decode cX4_vehicle 43 = .ok (.ireturn, 1) := by decide +kernel
theorem dX4_vehicle_44 : decode cX4_vehicle 44 = .ok (.aload_n 0, 1) := by decide +kernel
theorem dX4_vehicle_45 : decode cX4_vehicle 45 = .ok (.getfield 49, 3) := by decide +kernel
theorem dX4_vehicle_48 : decode cX4_vehicle 48 = .ok (.istore 4, 2) := by decide +kernel
theorem dX4_vehicle_50 : decode cX4_vehicle 50 = .ok (.aload_n 0, 1) := by decide +kernel
theorem dX4_vehicle_51 : decode cX4_vehicle 51 = .ok (.getfield 11, 3) := by decide +kernel
theorem dX4_vehicle_54 : decode cX4_vehicle 54 = .ok (.iload 4, 2) := by decide +kernel
theorem dX4_vehicle_56 : decode cX4_vehicle 56 = .ok (.new 9, 3) := by decide +kernel
theorem dX4_vehicle_59 : decode cX4_vehicle 59 = .ok (.dup, 1) := by decide +kernel
theorem dX4_vehicle_60 : decode cX4_vehicle 60 = .ok (.iload_n 1, 1) := by decide +kernel
theorem dX4_vehicle_61 : decode cX4_vehicle 61 = .ok (.iload_n 2, 1) := by decide +kernel
theorem dX4_vehicle_62 : decode cX4_vehicle 62 = .ok (.iload_n 3, 1) := by decide +kernel
theorem dX4_vehicle_63 : decode cX4_vehicle 63 = .ok (.invokespecial 52, 3) := by decide +kernel
theorem dX4_vehicle_66 : decode cX4_vehicle 66 = .ok (.aastore, 1) := by decide +kernel
theorem dX4_vehicle_67 : decode cX4_vehicle 67 = .ok (.aload_n 0, 1) := by decide +kernel
theorem dX4_vehicle_68 : decode cX4_vehicle 68 = .ok (.dup, 1) := by decide +kernel
theorem dX4_vehicle_69 : decode cX4_vehicle 69 = .ok (.getfield 49, 3) := by decide +kernel
theorem dX4_vehicle_72 : decode cX4_vehicle 72 = .ok (.iconst 1, 1) := by decide +kernel
theorem dX4_vehicle_73 : decode cX4_vehicle 73 = .ok (.iadd, 1) := by decide +kernel
theorem dX4_vehicle_74 : decode cX4_vehicle 74 = .ok (.putfield 49, 3) := by decide +kernel
theorem dX4_vehicle_77 : decode cX4_vehicle 77 = .ok (.iload 4, 2) := by decide +kernel
theorem dX4_vehicle_79 : decode cX4_vehicle 79 = .ok (.ireturn, 1) := by decide +kernel
set_option maxRecDepth 20000 in
theorem ggX4_ask_X4_vehicleAt : GoodIn wsX4_ask wsX4_vehicleAt := goodIn_r _ [10, 11, 12, 13, 14, 9, 15, 122, 123, 124, 125, 126, 127, 128, 129, 130] (by decide +kernel) (by decide +kernel)
set_option maxRecDepth 20000 in
theorem gX4_ask_X4_vehicleAt : GoodIn wsX4_ask (wsV RX4 55 RX4 yX4_vehicleAt wsX4_vehicleAt) := goodIn_app (goodIn_of _ (by decide +kernel)) ggX4_ask_X4_vehicleAt
set_option maxRecDepth 20000 in
theorem ggX4_ask_X4_within : GoodIn wsX4_ask wsX4_within := goodIn_r _ [15] (by decide +kernel) (by decide +kernel)
set_option maxRecDepth 20000 in
theorem gX4_ask_X4_within : GoodIn wsX4_ask (va_wsS RX4 29 yX4_within wsX4_within) := goodIn_app (goodIn_of _ (by decide +kernel)) ggX4_ask_X4_within
set_option maxRecDepth 20000 in
theorem ggX4_ask_X4_beginAct : GoodIn wsX4_ask wsX4_beginAct := goodIn_r _ [19, 20, 4, 21, 22, 23, 24, 25, 26, 27, 28, 122, 123, 124, 125, 126, 127, 128, 129, 130, 131, 132, 133, 134, 135] (by decide +kernel) (by decide +kernel)
set_option maxRecDepth 20000 in
theorem gX4_ask_X4_beginAct : GoodIn wsX4_ask (wsV RX4 61 RX4 yX4_beginAct wsX4_beginAct) := goodIn_app (goodIn_of _ (by decide +kernel)) ggX4_ask_X4_beginAct
set_option maxRecDepth 20000 in
theorem ggX4_ask_X4_ownerOf : GoodIn wsX4_ask wsX4_ownerOf := goodIn_r _ [31, 32, 13, 14, 9, 15] (by decide +kernel) (by decide +kernel)
set_option maxRecDepth 20000 in
theorem gX4_ask_X4_ownerOf : GoodIn wsX4_ask (va_wsS RX4 67 yX4_ownerOf wsX4_ownerOf) := goodIn_app (goodIn_of _ (by decide +kernel)) ggX4_ask_X4_ownerOf
set_option maxRecDepth 20000 in
theorem ggX4_ask_X0_answer : GoodIn wsX4_ask wsX0_answer := goodIn_r _ [36, 37, 38, 39, 40, 24, 41, 26, 30, 9, 31, 32, 13, 14, 15, 42, 43, 44, 45, 28, 46, 47, 48, 49, 50, 51, 52, 53, 54, 55, 56, 57, 58, 59, 60, 61, 62, 63, 64, 65, 66, 67, 68, 69, 70, 71, 72, 73, 74, 75, 76, 77, 78, 79, 80, 81, 82, 83, 84, 85, 86, 87, 88, 89, 90, 91, 92, 93, 94, 95, 96, 97, 98, 99, 100, 101, 102, 103, 104, 105, 106, 107, 108, 116, 117, 118, 119, 120, 121, 131, 132, 133, 134, 135] (by decide +kernel) (by decide +kernel)
set_option maxRecDepth 20000 in
theorem gX4_ask_X0_answer : GoodIn wsX4_ask (wsV RX4 73 RX0 yX0_answer wsX0_answer) := goodIn_app (goodIn_of _ (by decide +kernel)) ggX4_ask_X0_answer
set_option maxRecDepth 20000 in
theorem ggX4_ask_X0_failed : GoodIn wsX4_ask wsX0_failed := goodIn_r _ [45, 28, 131, 132, 133] (by decide +kernel) (by decide +kernel)
set_option maxRecDepth 20000 in
theorem gX4_ask_X0_failed : GoodIn wsX4_ask (wsV RX4 77 RX0 yX0_failed wsX0_failed) := goodIn_app (goodIn_of _ (by decide +kernel)) ggX4_ask_X0_failed
set_option maxRecDepth 20000 in
theorem ggX4_ask_X4_endByFailure : GoodIn wsX4_ask wsX4_endByFailure := goodIn_r _ [113, 114, 4, 115, 122, 123, 124, 125, 126, 127, 128, 129, 130, 131, 132, 133] (by decide +kernel) (by decide +kernel)
set_option maxRecDepth 20000 in
theorem gX4_ask_X4_endByFailure : GoodIn wsX4_ask (wsV RX4 83 RX4 yX4_endByFailure wsX4_endByFailure) := goodIn_app (goodIn_of _ (by decide +kernel)) ggX4_ask_X4_endByFailure
theorem dX4_ask_0 : decode cX4_ask 0 = .ok (.aload_n 0, 1) := by decide +kernel
theorem dX4_ask_1 : decode cX4_ask 1 = .ok (.iload_n 1, 1) := by decide +kernel
theorem dX4_ask_2 : decode cX4_ask 2 = .ok (.invokevirtual 55, 3) := by decide +kernel
theorem dX4_ask_5 : decode cX4_ask 5 = .ok (.astore 4, 2) := by decide +kernel
theorem dX4_ask_7 : decode cX4_ask 7 = .ok (.aload 4, 2) := by decide +kernel
theorem dX4_ask_9 : decode cX4_ask 9 = .ok (.ifnull 13, 3) := by decide +kernel
theorem dX4_ask_12 : decode cX4_ask 12 = .ok (.iload_n 2, 1) := by decide +kernel
theorem dX4_ask_13 : decode cX4_ask 13 = .ok (.iconst 0, 1) := by decide +kernel
theorem dX4_ask_14 : decode cX4_ask 14 = .ok (.bipush 6, 2) := by decide +kernel
theorem dX4_ask_16 : decode cX4_ask 16 = .ok (.invokestatic 29, 3) := by decide +kernel
theorem dX4_ask_19 : decode cX4_ask 19 = .ok (.ifCond .ne 7, 3) := by decide +kernel
theorem dX4_ask_22 : decode cX4_ask 22 = .ok (.ldc2_w 59, 3) := by decide +kernel
theorem dX4_ask_25 : decode cX4_ask 25 = .ok (.lreturn, 1) := by decide +kernel
theorem dX4_ask_26 : decode cX4_ask 26 = .ok (.aload_n 0, 1) := by decide +kernel
theorem dX4_ask_27 : decode cX4_ask 27 = .ok (.invokevirtual 61, 3) := by decide +kernel
theorem dX4_ask_30 : decode cX4_ask 30 = .ok (.iload_n 2, 1) := by decide +kernel
theorem dX4_ask_31 : decode cX4_ask 31 = .ok (.aload 4, 2) := by decide +kernel
theorem dX4_ask_33 : decode cX4_ask 33 = .ok (.getfield 64, 3) := by decide +kernel
theorem dX4_ask_36 : decode cX4_ask 36 = .ok (.invokestatic 67, 3) := by decide +kernel
theorem dX4_ask_39 : decode cX4_ask 39 = .ok (.iconst (-1), 1) := by decide +kernel
theorem dX4_ask_40 : decode cX4_ask 40 = .ok (.if_icmp .ne 7, 3) := by decide +kernel
theorem dX4_ask_43 : decode cX4_ask 43 = .ok (.ldc2_w 71, 3) := by decide +kernel
theorem dX4_ask_46 : decode cX4_ask 46 = .ok (.lreturn, 1) := by decide +kernel
theorem dX4_ask_47 : decode cX4_ask 47 = .ok (.aload_n 0, 1) := by decide +kernel
theorem dX4_ask_48 : decode cX4_ask 48 = .ok (.getfield 25, 3) := by decide +kernel
theorem dX4_ask_51 : decode cX4_ask 51 = .ok (.aload 4, 2) := by decide +kernel
theorem dX4_ask_53 : decode cX4_ask 53 = .ok (.iload_n 2, 1) := by decide +kernel
theorem dX4_ask_54 : decode cX4_ask 54 = .ok (.iload_n 3, 1) := by decide +kernel
theorem dX4_ask_55 : decode cX4_ask 55 = .ok (.invokevirtual 73, 3) := by decide +kernel
theorem dX4_ask_58 : decode cX4_ask 58 = .ok (.istore 5, 2) := by decide +kernel
theorem dX4_ask_60 : decode cX4_ask 60 = .ok (.aload_n 0, 1) := by decide +kernel
theorem dX4_ask_61 : decode cX4_ask 61 = .ok (.getfield 25, 3) := by decide +kernel
theorem dX4_ask_64 : decode cX4_ask 64 = .ok (.invokevirtual 77, 3) := by decide +kernel
theorem dX4_ask_67 : decode cX4_ask 67 = .ok (.ifCond .eq 15, 3) := by decide +kernel
theorem dX4_ask_70 : decode cX4_ask 70 = .ok (.ldc2_w 81, 3) := by decide +kernel
theorem dX4_ask_73 : decode cX4_ask 73 = .ok (.aload_n 0, 1) := by decide +kernel
theorem dX4_ask_74 : decode cX4_ask 74 = .ok (.invokevirtual 83, 3) := by decide +kernel
theorem dX4_ask_77 : decode cX4_ask 77 = .ok (.i2l, 1) := by decide +kernel
theorem dX4_ask_78 : decode cX4_ask 78 = .ok (.ladd, 1) := by decide +kernel
theorem dX4_ask_79 : decode cX4_ask 79 = .ok (.goto 6, 3) := by decide +kernel
theorem dX4_ask_82 : decode cX4_ask 82 = .ok (.iload 5, 2) := by decide +kernel
theorem dX4_ask_84 : decode cX4_ask 84 = .ok (.i2l, 1) := by decide +kernel
theorem dX4_ask_85 : decode cX4_ask 85 = .ok (.lreturn, 1) := by decide +kernel
set_option maxRecDepth 20000 in
theorem ggX4_trace_X2_has : GoodIn wsX4_trace wsX2_has := goodIn_r _ [8, 9, 10, 11, 12, 25, 26] (by decide +kernel) (by decide +kernel)
set_option maxRecDepth 20000 in
theorem gX4_trace_X2_has : GoodIn wsX4_trace (wsV RX4 91 RX2 yX2_has wsX2_has) := goodIn_app (goodIn_of _ (by decide +kernel)) ggX4_trace_X2_has
theorem dX4_trace_0 : decode cX4_trace 0 = .ok (.aload_n 0, 1) := by decide +kernel
theorem dX4_trace_1 : decode cX4_trace 1 = .ok (.getfield 25, 3) := by decide +kernel
theorem dX4_trace_4 : decode cX4_trace 4 = .ok (.getfield 87, 3) := by decide +kernel
theorem dX4_trace_7 : decode cX4_trace 7 = .ok (.iload_n 1, 1) := by decide +kernel
theorem dX4_trace_8 : decode cX4_trace 8 = .ok (.invokevirtual 91, 3) := by decide +kernel
theorem dX4_trace_11 : decode cX4_trace 11 = .ok (.ifCond .eq 18, 3) := by decide +kernel
theorem dX4_trace_14 : decode cX4_trace 14 = .ok (.aload_n 0, 1) := by decide +kernel
theorem dX4_trace_15 : decode cX4_trace 15 = .ok (.getfield 25, 3) := by decide +kernel
theorem dX4_trace_18 : decode cX4_trace 18 = .ok (.getfield 87, 3) := by decide +kernel
theorem dX4_trace_21 : decode cX4_trace 21 = .ok (.getfield 97, 3) := by decide +kernel
theorem dX4_trace_24 : decode cX4_trace 24 = .ok (.iload_n 1, 1) := by decide +kernel
theorem dX4_trace_25 : decode cX4_trace 25 = .ok (.iaload, 1) := by decide +kernel
theorem dX4_trace_26 : decode cX4_trace 26 = .ok (.goto 4, 3) := by decide +kernel
theorem dX4_trace_29 : decode cX4_trace 29 = .ok (.iconst (-1), 1) := by decide +kernel
theorem dX4_trace_30 : decode cX4_trace 30 = .ok (.ireturn, 1) := by decide +kernel
set_option maxRecDepth 20000 in
theorem ggX4_board_X4_vehicleAt : GoodIn wsX4_board wsX4_vehicleAt := goodIn_r _ [10, 11, 12, 13, 14, 9, 15, 138, 139, 140, 141, 142, 143, 144, 145, 146] (by decide +kernel) (by decide +kernel)
set_option maxRecDepth 20000 in
theorem gX4_board_X4_vehicleAt : GoodIn wsX4_board (wsV RX4 55 RX4 yX4_vehicleAt wsX4_vehicleAt) := goodIn_app (goodIn_of _ (by decide +kernel)) ggX4_board_X4_vehicleAt
set_option maxRecDepth 20000 in
theorem ggX4_board_X4_deckAt : GoodIn wsX4_board wsX4_deckAt := goodIn_r _ [19, 20, 13, 14, 9, 15, 138, 139, 140, 141, 142, 143, 144, 145, 146] (by decide +kernel) (by decide +kernel)
set_option maxRecDepth 20000 in
theorem gX4_board_X4_deckAt : GoodIn wsX4_board (wsV RX4 37 RX4 yX4_deckAt wsX4_deckAt) := goodIn_app (goodIn_of _ (by decide +kernel)) ggX4_board_X4_deckAt
set_option maxRecDepth 20000 in
theorem ggX4_board_X4_within : GoodIn wsX4_board wsX4_within := goodIn_r _ [15] (by decide +kernel) (by decide +kernel)
set_option maxRecDepth 20000 in
theorem gX4_board_X4_within : GoodIn wsX4_board (va_wsS RX4 29 yX4_within wsX4_within) := goodIn_app (goodIn_of _ (by decide +kernel)) ggX4_board_X4_within
set_option maxRecDepth 20000 in
theorem ggX4_board_X4_beginAct : GoodIn wsX4_board wsX4_beginAct := goodIn_r _ [24, 25, 2, 26, 27, 28, 29, 30, 31, 32, 33, 138, 139, 140, 141, 142, 143, 144, 145, 146, 147, 148, 149, 150, 151] (by decide +kernel) (by decide +kernel)
set_option maxRecDepth 20000 in
theorem gX4_board_X4_beginAct : GoodIn wsX4_board (wsV RX4 61 RX4 yX4_beginAct wsX4_beginAct) := goodIn_app (goodIn_of _ (by decide +kernel)) ggX4_board_X4_beginAct
set_option maxRecDepth 20000 in
theorem ggX4_board_X0_answer : GoodIn wsX4_board wsX0_answer := goodIn_r _ [37, 38, 39, 40, 41, 29, 42, 31, 43, 9, 44, 45, 13, 14, 15, 46, 47, 48, 49, 33, 50, 51, 52, 53, 54, 55, 56, 57, 58, 59, 60, 61, 62, 63, 64, 65, 66, 67, 68, 69, 70, 71, 72, 73, 74, 75, 76, 77, 78, 79, 80, 81, 82, 83, 84, 85, 86, 87, 88, 89, 90, 91, 92, 93, 94, 95, 96, 97, 98, 99, 100, 101, 102, 103, 104, 105, 106, 107, 108, 109, 110, 111, 112, 132, 133, 134, 135, 136, 137, 147, 148, 149, 150, 151] (by decide +kernel) (by decide +kernel)
set_option maxRecDepth 20000 in
theorem gX4_board_X0_answer : GoodIn wsX4_board (wsV RX4 73 RX0 yX0_answer wsX0_answer) := goodIn_app (goodIn_of _ (by decide +kernel)) ggX4_board_X0_answer
set_option maxRecDepth 20000 in
theorem ggX4_board_X0_failed : GoodIn wsX4_board wsX0_failed := goodIn_r _ [49, 33, 147, 148, 149] (by decide +kernel) (by decide +kernel)
set_option maxRecDepth 20000 in
theorem gX4_board_X0_failed : GoodIn wsX4_board (wsV RX4 77 RX0 yX0_failed wsX0_failed) := goodIn_app (goodIn_of _ (by decide +kernel)) ggX4_board_X0_failed
set_option maxRecDepth 20000 in
theorem ggX4_board_X4_endByFailure : GoodIn wsX4_board wsX4_endByFailure := goodIn_r _ [117, 118, 2, 119, 138, 139, 140, 141, 142, 143, 144, 145, 146, 147, 148, 149] (by decide +kernel) (by decide +kernel)
set_option maxRecDepth 20000 in
theorem gX4_board_X4_endByFailure : GoodIn wsX4_board (wsV RX4 83 RX4 yX4_endByFailure wsX4_endByFailure) := goodIn_app (goodIn_of _ (by decide +kernel)) ggX4_board_X4_endByFailure
set_option maxRecDepth 20000 in
theorem ggX4_board_X1_left : GoodIn wsX4_board wsX1_left := goodIn_r _ [124, 125, 126, 152, 153, 154] (by decide +kernel) (by decide +kernel)
set_option maxRecDepth 20000 in
theorem gX4_board_X1_left : GoodIn wsX4_board (wsV RX4 106 RX1 yX1_left wsX1_left) := goodIn_app (goodIn_of _ (by decide +kernel)) ggX4_board_X1_left
set_option maxRecDepth 20000 in
theorem ggX4_board_X1_receive : GoodIn wsX4_board wsX1_receive := goodIn_r _ [130, 126, 131, 152, 153, 154] (by decide +kernel) (by decide +kernel)
set_option maxRecDepth 20000 in
theorem gX4_board_X1_receive : GoodIn wsX4_board (wsV RX4 114 RX1 yX1_receive wsX1_receive) := goodIn_app (goodIn_of _ (by decide +kernel)) ggX4_board_X1_receive
theorem dX4_board_0 : decode cX4_board 0 = .ok (.aload_n 0, 1) := by decide +kernel
theorem dX4_board_1 : decode cX4_board 1 = .ok (.iload_n 1, 1) := by decide +kernel
theorem dX4_board_2 : decode cX4_board 2 = .ok (.invokevirtual 55, 3) := by decide +kernel
theorem dX4_board_5 : decode cX4_board 5 = .ok (.astore 5, 2) := by decide +kernel
theorem dX4_board_7 : decode cX4_board 7 = .ok (.aload_n 0, 1) := by decide +kernel
theorem dX4_board_8 : decode cX4_board 8 = .ok (.iload_n 2, 1) := by decide +kernel
theorem dX4_board_9 : decode cX4_board 9 = .ok (.invokevirtual 37, 3) := by decide +kernel
theorem dX4_board_12 : decode cX4_board 12 = .ok (.astore 6, 2) := by decide +kernel
theorem dX4_board_14 : decode cX4_board 14 = .ok (.aload 5, 2) := by decide +kernel
theorem dX4_board_16 : decode cX4_board 16 = .ok (.ifnull 19, 3) := by decide +kernel
theorem dX4_board_19 : decode cX4_board 19 = .ok (.aload 6, 2) := by decide +kernel
theorem dX4_board_21 : decode cX4_board 21 = .ok (.ifnull 14, 3) := by decide +kernel
theorem dX4_board_24 : decode cX4_board 24 = .ok (.iload 4, 2) := by decide +kernel
theorem dX4_board_26 : decode cX4_board 26 = .ok (.iconst 0, 1) := by decide +kernel
theorem dX4_board_27 : decode cX4_board 27 = .ok (.bipush 9, 2) := by decide +kernel
theorem dX4_board_29 : decode cX4_board 29 = .ok (.invokestatic 29, 3) := by decide +kernel
theorem dX4_board_32 : decode cX4_board 32 = .ok (.ifCond .ne 5, 3) := by decide +kernel
theorem dX4_board_35 : decode cX4_board 35 = .ok (.iconst (-1), 1) := by decide +kernel
theorem dX4_board_36 : decode cX4_board 36 = .ok (.ireturn, 1) := by decide +kernel
theorem dX4_board_37 : decode cX4_board 37 = .ok (.aload 5, 2) := by decide +kernel
theorem dX4_board_39 : decode cX4_board 39 = .ok (.getfield 100, 3) := by decide +kernel
theorem dX4_board_42 : decode cX4_board 42 = .ok (.iconst (-1), 1) := by decide +kernel
theorem dX4_board_43 : decode cX4_board 43 = .ok (.if_icmp .eq 6, 3) := by decide +kernel
theorem dX4_board_46 : decode cX4_board 46 = .ok (.bipush (-3), 2) := by decide +kernel
theorem dX4_board_48 : decode cX4_board 48 = .ok (.ireturn, 1) := by decide +kernel
theorem dX4_board_49 : decode cX4_board 49 = .ok (.aload_n 0, 1) := by decide +kernel
theorem dX4_board_50 : decode cX4_board 50 = .ok (.invokevirtual 61, 3) := by decide +kernel
theorem dX4_board_53 : decode cX4_board 53 = .ok (.aload_n 0, 1) := by decide +kernel
theorem dX4_board_54 : decode cX4_board 54 = .ok (.getfield 25, 3) := by decide +kernel
theorem dX4_board_57 : decode cX4_board 57 = .ok (.aload 5, 2) := by decide +kernel
theorem dX4_board_59 : decode cX4_board 59 = .ok (.iconst 2, 1) := by decide +kernel
theorem dX4_board_60 : decode cX4_board 60 = .ok (.iload_n 3, 1) := by decide +kernel
theorem dX4_board_61 : decode cX4_board 61 = .ok (.invokevirtual 73, 3) := by decide +kernel
theorem dX4_board_64 : decode cX4_board 64 = .ok (.istore 7, 2) := by decide +kernel
theorem dX4_board_66 : decode cX4_board 66 = .ok (.aload_n 0, 1) := by decide +kernel
theorem dX4_board_67 : decode cX4_board 67 = .ok (.getfield 25, 3) := by decide +kernel
theorem dX4_board_70 : decode cX4_board 70 = .ok (.invokevirtual 77, 3) := by decide +kernel
theorem dX4_board_73 : decode cX4_board 73 = .ok (.ifCond .eq 11, 3) := by decide +kernel
theorem dX4_board_76 : decode cX4_board 76 = .ok (.bipush (-10), 2) := by decide +kernel
theorem dX4_board_78 : decode cX4_board 78 = .ok (.aload_n 0, 1) := by decide +kernel
theorem dX4_board_79 : decode cX4_board 79 = .ok (.invokevirtual 83, 3) := by decide +kernel
theorem dX4_board_82 : decode cX4_board 82 = .ok (.isub, 1) := by decide +kernel
theorem dX4_board_83 : decode cX4_board 83 = .ok (.ireturn, 1) := by decide +kernel
theorem dX4_board_84 : decode cX4_board 84 = .ok (.aload_n 0, 1) := by decide +kernel
theorem dX4_board_85 : decode cX4_board 85 = .ok (.iload 7, 2) := by decide +kernel
theorem dX4_board_87 : decode cX4_board 87 = .ok (.putfield 103, 3) := by decide +kernel
theorem dX4_board_90 : decode cX4_board 90 = .ok (.aload_n 0, 1) := by decide +kernel
theorem dX4_board_91 : decode cX4_board 91 = .ok (.getfield 25, 3) := by decide +kernel
theorem dX4_board_94 : decode cX4_board 94 = .ok (.aload 5, 2) := by decide +kernel
theorem dX4_board_96 : decode cX4_board 96 = .ok (.iconst 0, 1) := by decide +kernel
theorem dX4_board_97 : decode cX4_board 97 = .ok (.iconst 0, 1) := by decide +kernel
theorem dX4_board_98 : decode cX4_board 98 = .ok (.invokevirtual 73, 3) := by decide +kernel
theorem dX4_board_101 : decode cX4_board 101 = .ok (.istore 8, 2) := by decide +kernel
theorem dX4_board_103 : decode cX4_board 103 = .ok (.iload 8, 2) := by decide +kernel
theorem dX4_board_105 : decode cX4_board 105 = .ok (.aload 6, 2) := by decide +kernel
theorem dX4_board_107 : decode cX4_board 107 = .ok (.invokevirtual 106, 3) := by decide +kernel
theorem dX4_board_110 : decode cX4_board 110 = .ok (.if_icmp .le 6, 3) := by decide +kernel
theorem dX4_board_113 : decode cX4_board 113 = .ok (.bipush (-4), 2) := by decide +kernel
theorem dX4_board_115 : decode cX4_board 115 = .ok (.ireturn, 1) := by decide +kernel
theorem dX4_board_116 : decode cX4_board 116 = .ok (.aload_n 0, 1) := by decide +kernel
theorem dX4_board_117 : decode cX4_board 117 = .ok (.getfield 25, 3) := by decide +kernel
theorem dX4_board_120 : decode cX4_board 120 = .ok (.aload 5, 2) := by decide +kernel
theorem dX4_board_122 : decode cX4_board 122 = .ok (.iconst 1, 1) := by decide +kernel
theorem dX4_board_123 : decode cX4_board 123 = .ok (.iload 4, 2) := by decide +kernel
theorem dX4_board_125 : decode cX4_board 125 = .ok (.invokevirtual 73, 3) := by decide +kernel
theorem dX4_board_128 : decode cX4_board 128 = .ok (.istore 9, 2) := by decide +kernel
theorem dX4_board_130 : decode cX4_board 130 = .ok (.aload_n 0, 1) := by decide +kernel
theorem dX4_board_131 : decode cX4_board 131 = .ok (.getfield 25, 3) := by decide +kernel
theorem dX4_board_134 : decode cX4_board 134 = .ok (.invokevirtual 77, 3) := by decide +kernel
theorem dX4_board_137 : decode cX4_board 137 = .ok (.ifCond .eq 11, 3) := by decide +kernel
theorem dX4_board_140 : decode cX4_board 140 = .ok (.bipush (-10), 2) := by decide +kernel
theorem dX4_board_142 : decode cX4_board 142 = .ok (.aload_n 0, 1) := by decide +kernel
theorem dX4_board_143 : decode cX4_board 143 = .ok (.invokevirtual 83, 3) := by decide +kernel
theorem dX4_board_146 : decode cX4_board 146 = .ok (.isub, 1) := by decide +kernel
theorem dX4_board_147 : decode cX4_board 147 = .ok (.ireturn, 1) := by decide +kernel
theorem dX4_board_148 : decode cX4_board 148 = .ok (.aload_n 0, 1) := by decide +kernel
theorem dX4_board_149 : decode cX4_board 149 = .ok (.dup, 1) := by decide +kernel
theorem dX4_board_150 : decode cX4_board 150 = .ok (.getfield 109, 3) := by decide +kernel
theorem dX4_board_153 : decode cX4_board 153 = .ok (.iload 9, 2) := by decide +kernel
theorem dX4_board_155 : decode cX4_board 155 = .ok (.i2l, 1) := by decide +kernel
theorem dX4_board_156 : decode cX4_board 156 = .ok (.ladd, 1) := by decide +kernel
theorem dX4_board_157 : decode cX4_board 157 = .ok (.putfield 109, 3) := by decide +kernel
theorem dX4_board_160 : decode cX4_board 160 = .ok (.aload 5, 2) := by decide +kernel
theorem dX4_board_162 : decode cX4_board 162 = .ok (.iload_n 2, 1) := by decide +kernel
theorem dX4_board_163 : decode cX4_board 163 = .ok (.putfield 100, 3) := by decide +kernel
theorem dX4_board_166 : decode cX4_board 166 = .ok (.aload 5, 2) := by decide +kernel
theorem dX4_board_168 : decode cX4_board 168 = .ok (.iload 8, 2) := by decide +kernel
theorem dX4_board_170 : decode cX4_board 170 = .ok (.putfield 113, 3) := by decide +kernel
theorem dX4_board_173 : decode cX4_board 173 = .ok (.aload 6, 2) := by decide +kernel
theorem dX4_board_175 : decode cX4_board 175 = .ok (.iload 8, 2) := by decide +kernel
theorem dX4_board_177 : decode cX4_board 177 = .ok (.invokevirtual 114, 3) := by decide +kernel
theorem dX4_board_180 : decode cX4_board 180 = .ok (.aload 6, 2) := by decide +kernel
theorem dX4_board_182 : decode cX4_board 182 = .ok (.invokevirtual 106, 3) := by decide +kernel
theorem dX4_board_185 : decode cX4_board 185 = .ok (.ireturn, 1) := by decide +kernel
set_option maxRecDepth 20000 in
theorem ggX4_leave_X4_vehicleAt : GoodIn wsX4_leave wsX4_vehicleAt := goodIn_r _ [7, 8, 9, 10, 11, 6, 12, 44, 45, 46, 47, 48, 49, 50, 51, 52] (by decide +kernel) (by decide +kernel)
set_option maxRecDepth 20000 in
theorem gX4_leave_X4_vehicleAt : GoodIn wsX4_leave (wsV RX4 55 RX4 yX4_vehicleAt wsX4_vehicleAt) := goodIn_app (goodIn_of _ (by decide +kernel)) ggX4_leave_X4_vehicleAt
set_option maxRecDepth 20000 in
theorem ggX4_leave_X4_deckAt : GoodIn wsX4_leave wsX4_deckAt := goodIn_r _ [16, 17, 10, 11, 6, 12, 44, 45, 46, 47, 48, 49, 50, 51, 52] (by decide +kernel) (by decide +kernel)
set_option maxRecDepth 20000 in
theorem gX4_leave_X4_deckAt : GoodIn wsX4_leave (wsV RX4 37 RX4 yX4_deckAt wsX4_deckAt) := goodIn_app (goodIn_of _ (by decide +kernel)) ggX4_leave_X4_deckAt
set_option maxRecDepth 20000 in
theorem ggX4_leave_X1_release : GoodIn wsX4_leave wsX1_release := goodIn_r _ [22, 23, 24, 53, 54, 55] (by decide +kernel) (by decide +kernel)
set_option maxRecDepth 20000 in
theorem gX4_leave_X1_release : GoodIn wsX4_leave (wsV RX4 118 RX1 yX1_release wsX1_release) := goodIn_app (goodIn_of _ (by decide +kernel)) ggX4_leave_X1_release
set_option maxRecDepth 20000 in
theorem ggX4_leave_X3_goAshore : GoodIn wsX4_leave wsX3_goAshore := goodIn_r _ [29, 30, 31, 32, 38, 39, 40, 41, 42, 43] (by decide +kernel) (by decide +kernel)
set_option maxRecDepth 20000 in
theorem gX4_leave_X3_goAshore : GoodIn wsX4_leave (wsV RX4 121 RX3 yX3_goAshore wsX3_goAshore) := goodIn_app (goodIn_of _ (by decide +kernel)) ggX4_leave_X3_goAshore
set_option maxRecDepth 20000 in
theorem ggX4_leave_X1_left : GoodIn wsX4_leave wsX1_left := goodIn_r _ [36, 37, 23, 53, 54, 55] (by decide +kernel) (by decide +kernel)
set_option maxRecDepth 20000 in
theorem gX4_leave_X1_left : GoodIn wsX4_leave (wsV RX4 106 RX1 yX1_left wsX1_left) := goodIn_app (goodIn_of _ (by decide +kernel)) ggX4_leave_X1_left
theorem dX4_leave_0 : decode cX4_leave 0 = .ok (.aload_n 0, 1) := by decide +kernel
theorem dX4_leave_1 : decode cX4_leave 1 = .ok (.iload_n 1, 1) := by decide +kernel
theorem dX4_leave_2 : decode cX4_leave 2 = .ok (.invokevirtual 55, 3) := by decide +kernel
theorem dX4_leave_5 : decode cX4_leave 5 = .ok (.astore_n 2, 1) := by decide +kernel
theorem dX4_leave_6 : decode cX4_leave 6 = .ok (.aload_n 2, 1) := by decide +kernel
theorem dX4_leave_7 : decode cX4_leave 7 = .ok (.ifnonnull 5, 3) := by decide +kernel
theorem dX4_leave_10 : decode cX4_leave 10 = .ok (.iconst (-1), 1) := by decide +kernel
theorem dX4_leave_11 : decode cX4_leave 11 = .ok (.ireturn, 1) := by decide +kernel
theorem dX4_leave_12 : decode cX4_leave 12 = .ok (.aload_n 0, 1) := by decide +kernel
theorem dX4_leave_13 : decode cX4_leave 13 = .ok (.aload_n 2, 1) := by decide +kernel
theorem dX4_leave_14 : decode cX4_leave 14 = .ok (.getfield 100, 3) := by decide +kernel
theorem dX4_leave_17 : decode cX4_leave 17 = .ok (.invokevirtual 37, 3) := by decide +kernel
theorem dX4_leave_20 : decode cX4_leave 20 = .ok (.astore_n 3, 1) := by decide +kernel
theorem dX4_leave_21 : decode cX4_leave 21 = .ok (.aload_n 3, 1) := by decide +kernel
theorem dX4_leave_22 : decode cX4_leave 22 = .ok (.ifnonnull 6, 3) := by decide +kernel
theorem dX4_leave_25 : decode cX4_leave 25 = .ok (.bipush (-3), 2) := by decide +kernel
theorem dX4_leave_27 : decode cX4_leave 27 = .ok (.ireturn, 1) := by decide +kernel
theorem dX4_leave_28 : decode cX4_leave 28 = .ok (.aload_n 3, 1) := by decide +kernel
theorem dX4_leave_29 : decode cX4_leave 29 = .ok (.aload_n 2, 1) := by decide +kernel
theorem dX4_leave_30 : decode cX4_leave 30 = .ok (.getfield 113, 3) := by decide +kernel
theorem dX4_leave_33 : decode cX4_leave 33 = .ok (.invokevirtual 118, 3) := by decide +kernel
theorem dX4_leave_36 : decode cX4_leave 36 = .ok (.aload_n 2, 1) := by decide +kernel
theorem dX4_leave_37 : decode cX4_leave 37 = .ok (.invokevirtual 121, 3) := by decide +kernel
theorem dX4_leave_40 : decode cX4_leave 40 = .ok (.aload_n 3, 1) := by decide +kernel
theorem dX4_leave_41 : decode cX4_leave 41 = .ok (.invokevirtual 106, 3) := by decide +kernel
theorem dX4_leave_44 : decode cX4_leave 44 = .ok (.ireturn, 1) := by decide +kernel
theorem dX4_risk_0 : decode cX4_risk 0 = .ok (.aload_n 0, 1) := by decide +kernel
theorem dX4_risk_1 : decode cX4_risk 1 = .ok (.getfield 103, 3) := by decide +kernel
theorem dX4_risk_4 : decode cX4_risk 4 = .ok (.ireturn, 1) := by decide +kernel
set_option maxRecDepth 20000 in
theorem ggX4_pull_X4_vehicleAt : GoodIn wsX4_pull wsX4_vehicleAt := goodIn_r _ [8, 9, 10, 11, 12, 7, 13, 113, 114, 115, 116, 117, 118, 119, 120, 121] (by decide +kernel) (by decide +kernel)
set_option maxRecDepth 20000 in
theorem gX4_pull_X4_vehicleAt : GoodIn wsX4_pull (wsV RX4 55 RX4 yX4_vehicleAt wsX4_vehicleAt) := goodIn_app (goodIn_of _ (by decide +kernel)) ggX4_pull_X4_vehicleAt
set_option maxRecDepth 20000 in
theorem ggX4_pull_X4_beginAct : GoodIn wsX4_pull wsX4_beginAct := goodIn_r _ [17, 18, 2, 19, 20, 21, 22, 23, 24, 25, 26, 113, 114, 115, 116, 117, 118, 119, 120, 121, 122, 123, 124, 125, 126] (by decide +kernel) (by decide +kernel)
set_option maxRecDepth 20000 in
theorem gX4_pull_X4_beginAct : GoodIn wsX4_pull (wsV RX4 61 RX4 yX4_beginAct wsX4_beginAct) := goodIn_app (goodIn_of _ (by decide +kernel)) ggX4_pull_X4_beginAct
set_option maxRecDepth 20000 in
theorem ggX4_pull_X4_ownerOf : GoodIn wsX4_pull wsX4_ownerOf := goodIn_r _ [29, 30, 11, 12, 7, 13] (by decide +kernel) (by decide +kernel)
set_option maxRecDepth 20000 in
theorem gX4_pull_X4_ownerOf : GoodIn wsX4_pull (va_wsS RX4 67 yX4_ownerOf wsX4_ownerOf) := goodIn_app (goodIn_of _ (by decide +kernel)) ggX4_pull_X4_ownerOf
set_option maxRecDepth 20000 in
theorem ggX4_pull_X0_answer : GoodIn wsX4_pull wsX0_answer := goodIn_r _ [34, 35, 36, 37, 38, 22, 39, 24, 28, 7, 29, 30, 11, 12, 13, 40, 41, 42, 43, 26, 44, 45, 46, 47, 48, 49, 50, 51, 52, 53, 54, 55, 56, 57, 58, 59, 60, 61, 62, 63, 64, 65, 66, 67, 68, 69, 70, 71, 72, 73, 74, 75, 76, 77, 78, 79, 80, 81, 82, 83, 84, 85, 86, 87, 88, 89, 90, 91, 92, 93, 94, 95, 96, 97, 98, 99, 100, 101, 102, 103, 104, 105, 106, 107, 108, 109, 110, 111, 112, 122, 123, 124, 125, 126] (by decide +kernel) (by decide +kernel)
set_option maxRecDepth 20000 in
theorem gX4_pull_X0_answer : GoodIn wsX4_pull (wsV RX4 73 RX0 yX0_answer wsX0_answer) := goodIn_app (goodIn_of _ (by decide +kernel)) ggX4_pull_X0_answer
theorem dX4_pull_0 : decode cX4_pull 0 = .ok (.aload_n 0, 1) := by decide +kernel
theorem dX4_pull_1 : decode cX4_pull 1 = .ok (.iload_n 1, 1) := by decide +kernel
theorem dX4_pull_2 : decode cX4_pull 2 = .ok (.invokevirtual 55, 3) := by decide +kernel
theorem dX4_pull_5 : decode cX4_pull 5 = .ok (.astore_n 3, 1) := by decide +kernel
theorem dX4_pull_6 : decode cX4_pull 6 = .ok (.aload_n 3, 1) := by decide +kernel
theorem dX4_pull_7 : decode cX4_pull 7 = .ok (.ifnonnull 5, 3) := by decide +kernel
theorem dX4_pull_10 : decode cX4_pull 10 = .ok (.iconst (-1), 1) := by decide +kernel
theorem dX4_pull_11 : decode cX4_pull 11 = .ok (.ireturn, 1) := by decide +kernel
theorem dX4_pull_12 : decode cX4_pull 12 = .ok (.aload_n 0, 1) := by decide +kernel
theorem dX4_pull_13 : decode cX4_pull 13 = .ok (.invokevirtual 61, 3) := by decide +kernel
theorem dX4_pull_16 : decode cX4_pull 16 = .ok (.iconst 5, 1) := by decide +kernel
theorem dX4_pull_17 : decode cX4_pull 17 = .ok (.aload_n 3, 1) := by decide +kernel
theorem dX4_pull_18 : decode cX4_pull 18 = .ok (.getfield 64, 3) := by decide +kernel
theorem dX4_pull_21 : decode cX4_pull 21 = .ok (.invokestatic 67, 3) := by decide +kernel
theorem dX4_pull_24 : decode cX4_pull 24 = .ok (.iconst (-1), 1) := by decide +kernel
theorem dX4_pull_25 : decode cX4_pull 25 = .ok (.if_icmp .ne 6, 3) := by decide +kernel
theorem dX4_pull_28 : decode cX4_pull 28 = .ok (.bipush (-5), 2) := by decide +kernel
theorem dX4_pull_30 : decode cX4_pull 30 = .ok (.ireturn, 1) := by decide +kernel
theorem dX4_pull_31 : decode cX4_pull 31 = .ok (.aload_n 0, 1) := by decide +kernel
theorem dX4_pull_32 : decode cX4_pull 32 = .ok (.aload_n 0, 1) := by decide +kernel
theorem dX4_pull_33 : decode cX4_pull 33 = .ok (.getfield 25, 3) := by decide +kernel
theorem dX4_pull_36 : decode cX4_pull 36 = .ok (.aload_n 3, 1) := by decide +kernel
theorem dX4_pull_37 : decode cX4_pull 37 = .ok (.iconst 5, 1) := by decide +kernel
theorem dX4_pull_38 : decode cX4_pull 38 = .ok (.iload_n 2, 1) := by decide +kernel
theorem dX4_pull_39 : decode cX4_pull 39 = .ok (.invokevirtual 73, 3) := by decide +kernel
theorem dX4_pull_42 : decode cX4_pull 42 = .ok (.putfield 124, 3) := by decide +kernel
theorem dX4_pull_45 : decode cX4_pull 45 = .ok (.iconst 1, 1) := by decide +kernel
theorem dX4_pull_46 : decode cX4_pull 46 = .ok (.ireturn, 1) := by decide +kernel
theorem dX4_pulled_0 : decode cX4_pulled 0 = .ok (.aload_n 0, 1) := by decide +kernel
theorem dX4_pulled_1 : decode cX4_pulled 1 = .ok (.getfield 124, 3) := by decide +kernel
theorem dX4_pulled_4 : decode cX4_pulled 4 = .ok (.ireturn, 1) := by decide +kernel
set_option maxRecDepth 20000 in
theorem ggX4_told_X4_vehicleAt : GoodIn wsX4_told wsX4_vehicleAt := goodIn_r _ [12, 13, 14, 15, 16, 11, 17, 24, 25, 26, 27, 28, 29, 30, 31, 32] (by decide +kernel) (by decide +kernel)
set_option maxRecDepth 20000 in
theorem gX4_told_X4_vehicleAt : GoodIn wsX4_told (wsV RX4 55 RX4 yX4_vehicleAt wsX4_vehicleAt) := goodIn_app (goodIn_of _ (by decide +kernel)) ggX4_told_X4_vehicleAt
theorem dX4_told_0 : decode cX4_told 0 = .ok (.aload_n 0, 1) := by decide +kernel
theorem dX4_told_1 : decode cX4_told 1 = .ok (.iload_n 1, 1) := by decide +kernel
theorem dX4_told_2 : decode cX4_told 2 = .ok (.invokevirtual 55, 3) := by decide +kernel
theorem dX4_told_5 : decode cX4_told 5 = .ok (.astore_n 3, 1) := by decide +kernel
theorem dX4_told_6 : decode cX4_told 6 = .ok (.aload_n 3, 1) := by decide +kernel
theorem dX4_told_7 : decode cX4_told 7 = .ok (.ifnonnull 7, 3) := by decide +kernel
theorem dX4_told_10 : decode cX4_told 10 = .ok (.ldc2_w 59, 3) := by decide +kernel
theorem dX4_told_13 : decode cX4_told 13 = .ok (.lreturn, 1) := by decide +kernel
theorem dX4_told_14 : decode cX4_told 14 = .ok (.iload_n 2, 1) := by decide +kernel
theorem dX4_told_15 : decode cX4_told 15 = .ok (.tableswitch 73 0 5 #[37, 43, 49, 55, 61, 67], 37) := by decide +kernel
theorem dX4_told_52 : decode cX4_told 52 = .ok (.aload_n 3, 1) := by decide +kernel
theorem dX4_told_53 : decode cX4_told 53 = .ok (.getfield 64, 3) := by decide +kernel
theorem dX4_told_56 : decode cX4_told 56 = .ok (.i2l, 1) := by decide +kernel
theorem dX4_told_57 : decode cX4_told 57 = .ok (.lreturn, 1) := by decide +kernel
theorem dX4_told_58 : decode cX4_told 58 = .ok (.aload_n 3, 1) := by decide +kernel
theorem dX4_told_59 : decode cX4_told 59 = .ok (.getfield 127, 3) := by decide +kernel
theorem dX4_told_62 : decode cX4_told 62 = .ok (.i2l, 1) := by decide +kernel
theorem dX4_told_63 : decode cX4_told 63 = .ok (.lreturn, 1) := by decide +kernel
theorem dX4_told_64 : decode cX4_told 64 = .ok (.aload_n 3, 1) := by decide +kernel
theorem dX4_told_65 : decode cX4_told 65 = .ok (.getfield 130, 3) := by decide +kernel
theorem dX4_told_68 : decode cX4_told 68 = .ok (.i2l, 1) := by decide +kernel
theorem dX4_told_69 : decode cX4_told 69 = .ok (.lreturn, 1) := by decide +kernel
theorem dX4_told_70 : decode cX4_told 70 = .ok (.aload_n 3, 1) := by decide +kernel
theorem dX4_told_71 : decode cX4_told 71 = .ok (.getfield 133, 3) := by decide +kernel
theorem dX4_told_74 : decode cX4_told 74 = .ok (.i2l, 1) := by decide +kernel
theorem dX4_told_75 : decode cX4_told 75 = .ok (.lreturn, 1) := by decide +kernel
theorem dX4_told_76 : decode cX4_told 76 = .ok (.aload_n 3, 1) := by decide +kernel
theorem dX4_told_77 : decode cX4_told 77 = .ok (.getfield 100, 3) := by decide +kernel
theorem dX4_told_80 : decode cX4_told 80 = .ok (.i2l, 1) := by decide +kernel
theorem dX4_told_81 : decode cX4_told 81 = .ok (.lreturn, 1) := by decide +kernel
theorem dX4_told_82 : decode cX4_told 82 = .ok (.aload_n 3, 1) := by decide +kernel
theorem dX4_told_83 : decode cX4_told 83 = .ok (.getfield 113, 3) := by decide +kernel
theorem dX4_told_86 : decode cX4_told 86 = .ok (.i2l, 1) := by decide +kernel
theorem dX4_told_87 : decode cX4_told 87 = .ok (.lreturn, 1) := by decide +kernel
theorem dX4_told_88 : decode cX4_told 88 = .ok (.ldc2_w 59, 3) := by decide +kernel
theorem dX4_told_91 : decode cX4_told 91 = .ok (.lreturn, 1) := by decide +kernel
set_option maxRecDepth 20000 in
theorem ggX4_on_X4_deckAt : GoodIn wsX4_on wsX4_deckAt := goodIn_r _ [7, 8, 9, 10, 6, 11, 22, 23, 24, 25, 26, 27, 28, 29, 30] (by decide +kernel) (by decide +kernel)
set_option maxRecDepth 20000 in
theorem gX4_on_X4_deckAt : GoodIn wsX4_on (wsV RX4 37 RX4 yX4_deckAt wsX4_deckAt) := goodIn_app (goodIn_of _ (by decide +kernel)) ggX4_on_X4_deckAt
set_option maxRecDepth 20000 in
theorem ggX4_on_X1_left : GoodIn wsX4_on wsX1_left := goodIn_r _ [16, 17, 18, 19, 20, 21] (by decide +kernel) (by decide +kernel)
set_option maxRecDepth 20000 in
theorem gX4_on_X1_left : GoodIn wsX4_on (wsV RX4 106 RX1 yX1_left wsX1_left) := goodIn_app (goodIn_of _ (by decide +kernel)) ggX4_on_X1_left
theorem dX4_on_0 : decode cX4_on 0 = .ok (.aload_n 0, 1) := by decide +kernel
theorem dX4_on_1 : decode cX4_on 1 = .ok (.iload_n 1, 1) := by decide +kernel
theorem dX4_on_2 : decode cX4_on 2 = .ok (.invokevirtual 37, 3) := by decide +kernel
theorem dX4_on_5 : decode cX4_on 5 = .ok (.astore_n 3, 1) := by decide +kernel
theorem dX4_on_6 : decode cX4_on 6 = .ok (.aload_n 3, 1) := by decide +kernel
theorem dX4_on_7 : decode cX4_on 7 = .ok (.ifnonnull 5, 3) := by decide +kernel
theorem dX4_on_10 : decode cX4_on 10 = .ok (.iconst (-1), 1) := by decide +kernel
theorem dX4_on_11 : decode cX4_on 11 = .ok (.ireturn, 1) := by decide +kernel
theorem dX4_on_12 : decode cX4_on 12 = .ok (.iload_n 2, 1) := by decide +kernel
theorem dX4_on_13 : decode cX4_on 13 = .ok (.tableswitch 42 0 2 #[27, 32, 37], 27) := by decide +kernel
theorem dX4_on_40 : decode cX4_on 40 = .ok (.aload_n 3, 1) := by decide +kernel
theorem dX4_on_41 : decode cX4_on 41 = .ok (.getfield 45, 3) := by decide +kernel
theorem dX4_on_44 : decode cX4_on 44 = .ok (.ireturn, 1) := by decide +kernel
theorem dX4_on_45 : decode cX4_on 45 = .ok (.aload_n 3, 1) := by decide +kernel
theorem dX4_on_46 : decode cX4_on 46 = .ok (.invokevirtual 106, 3) := by decide +kernel
theorem dX4_on_49 : decode cX4_on 49 = .ok (.ireturn, 1) := by decide +kernel
theorem dX4_on_50 : decode cX4_on 50 = .ok (.aload_n 3, 1) := by decide +kernel
theorem dX4_on_51 : decode cX4_on 51 = .ok (.getfield 136, 3) := by decide +kernel
theorem dX4_on_54 : decode cX4_on 54 = .ok (.ireturn, 1) := by decide +kernel
theorem dX4_on_55 : decode cX4_on 55 = .ok (.iconst (-1), 1) := by decide +kernel
theorem dX4_on_56 : decode cX4_on 56 = .ok (.ireturn, 1) := by decide +kernel
theorem dX4_till_0 : decode cX4_till 0 = .ok (.aload_n 0, 1) := by decide +kernel
theorem dX4_till_1 : decode cX4_till 1 = .ok (.getfield 109, 3) := by decide +kernel
theorem dX4_till_4 : decode cX4_till 4 = .ok (.lreturn, 1) := by decide +kernel
theorem dX4_count_0 : decode cX4_count 0 = .ok (.iload_n 1, 1) := by decide +kernel
theorem dX4_count_1 : decode cX4_count 1 = .ok (.tableswitch 57 0 3 #[31, 36, 47, 52], 31) := by decide +kernel
theorem dX4_count_32 : decode cX4_count 32 = .ok (.aload_n 0, 1) := by decide +kernel
theorem dX4_count_33 : decode cX4_count 33 = .ok (.getfield 49, 3) := by decide +kernel
theorem dX4_count_36 : decode cX4_count 36 = .ok (.ireturn, 1) := by decide +kernel
theorem dX4_count_37 : decode cX4_count 37 = .ok (.aload_n 0, 1) := by decide +kernel
theorem dX4_count_38 : decode cX4_count 38 = .ok (.getfield 25, 3) := by decide +kernel
theorem dX4_count_41 : decode cX4_count 41 = .ok (.getfield 87, 3) := by decide +kernel
theorem dX4_count_44 : decode cX4_count 44 = .ok (.getfield 139, 3) := by decide +kernel
theorem dX4_count_47 : decode cX4_count 47 = .ok (.ireturn, 1) := by decide +kernel
theorem dX4_count_48 : decode cX4_count 48 = .ok (.aload_n 0, 1) := by decide +kernel
theorem dX4_count_49 : decode cX4_count 49 = .ok (.getfield 140, 3) := by decide +kernel
theorem dX4_count_52 : decode cX4_count 52 = .ok (.ireturn, 1) := by decide +kernel
theorem dX4_count_53 : decode cX4_count 53 = .ok (.aload_n 0, 1) := by decide +kernel
theorem dX4_count_54 : decode cX4_count 54 = .ok (.getfield 143, 3) := by decide +kernel
theorem dX4_count_57 : decode cX4_count 57 = .ok (.ireturn, 1) := by decide +kernel
theorem dX4_count_58 : decode cX4_count 58 = .ok (.iconst (-1), 1) := by decide +kernel
theorem dX4_count_59 : decode cX4_count 59 = .ok (.ireturn, 1) := by decide +kernel
theorem dX4_within_0 : decode cX4_within 0 = .ok (.iload_n 0, 1) := by decide +kernel
theorem dX4_within_1 : decode cX4_within 1 = .ok (.iload_n 1, 1) := by decide +kernel
theorem dX4_within_2 : decode cX4_within 2 = .ok (.if_icmp .lt 12, 3) := by decide +kernel
theorem dX4_within_5 : decode cX4_within 5 = .ok (.iload_n 0, 1) := by decide +kernel
theorem dX4_within_6 : decode cX4_within 6 = .ok (.iload_n 2, 1) := by decide +kernel
theorem dX4_within_7 : decode cX4_within 7 = .ok (.if_icmp .gt 7, 3) := by decide +kernel
theorem dX4_within_10 : decode cX4_within 10 = .ok (.iconst 1, 1) := by decide +kernel
theorem dX4_within_11 : decode cX4_within 11 = .ok (.goto 4, 3) := by decide +kernel
theorem dX4_within_14 : decode cX4_within 14 = .ok (.iconst 0, 1) := by decide +kernel
theorem dX4_within_15 : decode cX4_within 15 = .ok (.ireturn, 1) := by decide +kernel
set_option maxRecDepth 20000 in
theorem ggX4_ownerOf_X4_within : GoodIn wsX4_ownerOf wsX4_within := goodIn_r _ [5] (by decide +kernel) (by decide +kernel)
set_option maxRecDepth 20000 in
theorem gX4_ownerOf_X4_within : GoodIn wsX4_ownerOf (va_wsS RX4 29 yX4_within wsX4_within) := goodIn_app (goodIn_of _ (by decide +kernel)) ggX4_ownerOf_X4_within
theorem dX4_ownerOf_0 : decode cX4_ownerOf 0 = .ok (.iload_n 0, 1) := by decide +kernel
theorem dX4_ownerOf_1 : decode cX4_ownerOf 1 = .ok (.iconst 0, 1) := by decide +kernel
theorem dX4_ownerOf_2 : decode cX4_ownerOf 2 = .ok (.bipush 6, 2) := by decide +kernel
theorem dX4_ownerOf_4 : decode cX4_ownerOf 4 = .ok (.invokestatic 29, 3) := by decide +kernel
theorem dX4_ownerOf_7 : decode cX4_ownerOf 7 = .ok (.ifCond .eq 13, 3) := by decide +kernel
theorem dX4_ownerOf_10 : decode cX4_ownerOf 10 = .ok (.iload_n 1, 1) := by decide +kernel
theorem dX4_ownerOf_11 : decode cX4_ownerOf 11 = .ok (.iconst 0, 1) := by decide +kernel
theorem dX4_ownerOf_12 : decode cX4_ownerOf 12 = .ok (.bipush 9, 2) := by decide +kernel
theorem dX4_ownerOf_14 : decode cX4_ownerOf 14 = .ok (.invokestatic 29, 3) := by decide +kernel
theorem dX4_ownerOf_17 : decode cX4_ownerOf 17 = .ok (.ifCond .ne 5, 3) := by decide +kernel
theorem dX4_ownerOf_20 : decode cX4_ownerOf 20 = .ok (.iconst (-1), 1) := by decide +kernel
theorem dX4_ownerOf_21 : decode cX4_ownerOf 21 = .ok (.ireturn, 1) := by decide +kernel
theorem dX4_ownerOf_22 : decode cX4_ownerOf 22 = .ok (.getstatic 146, 3) := by decide +kernel
theorem dX4_ownerOf_25 : decode cX4_ownerOf 25 = .ok (.bipush 10, 2) := by decide +kernel
theorem dX4_ownerOf_27 : decode cX4_ownerOf 27 = .ok (.iload_n 0, 1) := by decide +kernel
theorem dX4_ownerOf_28 : decode cX4_ownerOf 28 = .ok (.imul, 1) := by decide +kernel
theorem dX4_ownerOf_29 : decode cX4_ownerOf 29 = .ok (.iload_n 1, 1) := by decide +kernel
theorem dX4_ownerOf_30 : decode cX4_ownerOf 30 = .ok (.iadd, 1) := by decide +kernel
theorem dX4_ownerOf_31 : decode cX4_ownerOf 31 = .ok (.iaload, 1) := by decide +kernel
theorem dX4_ownerOf_32 : decode cX4_ownerOf 32 = .ok (.ireturn, 1) := by decide +kernel
set_option maxRecDepth 20000 in
theorem ggX4_vehicleAt_X4_within : GoodIn wsX4_vehicleAt wsX4_within := goodIn_r _ [6] (by decide +kernel) (by decide +kernel)
set_option maxRecDepth 20000 in
theorem gX4_vehicleAt_X4_within : GoodIn wsX4_vehicleAt (va_wsS RX4 29 yX4_within wsX4_within) := goodIn_app (goodIn_of _ (by decide +kernel)) ggX4_vehicleAt_X4_within
theorem dX4_vehicleAt_0 : decode cX4_vehicleAt 0 = .ok (.iload_n 1, 1) := by decide +kernel
theorem dX4_vehicleAt_1 : decode cX4_vehicleAt 1 = .ok (.iconst 0, 1) := by decide +kernel
theorem dX4_vehicleAt_2 : decode cX4_vehicleAt 2 = .ok (.aload_n 0, 1) := by decide +kernel
theorem dX4_vehicleAt_3 : decode cX4_vehicleAt 3 = .ok (.getfield 49, 3) := by decide +kernel
theorem dX4_vehicleAt_6 : decode cX4_vehicleAt 6 = .ok (.iconst 1, 1) := by decide +kernel
theorem dX4_vehicleAt_7 : decode cX4_vehicleAt 7 = .ok (.isub, 1) := by decide +kernel
theorem dX4_vehicleAt_8 : decode cX4_vehicleAt 8 = .ok (.invokestatic 29, 3) := by decide +kernel
theorem dX4_vehicleAt_11 : decode cX4_vehicleAt 11 = .ok (.ifCond .eq 12, 3) := by decide +kernel
theorem dX4_vehicleAt_14 : decode cX4_vehicleAt 14 = .ok (.aload_n 0, 1) := by decide +kernel
theorem dX4_vehicleAt_15 : decode cX4_vehicleAt 15 = .ok (.getfield 11, 3) := by decide +kernel
theorem dX4_vehicleAt_18 : decode cX4_vehicleAt 18 = .ok (.iload_n 1, 1) := by decide +kernel
theorem dX4_vehicleAt_19 : decode cX4_vehicleAt 19 = .ok (.aaload, 1) := by decide +kernel
theorem dX4_vehicleAt_20 : decode cX4_vehicleAt 20 = .ok (.goto 4, 3) := by decide +kernel
theorem dX4_vehicleAt_23 : decode cX4_vehicleAt 23 = .ok (.aconst_null, 1) := by decide +kernel
theorem dX4_vehicleAt_24 : decode cX4_vehicleAt 24 = .ok (.areturn, 1) := by decide +kernel
set_option maxRecDepth 20000 in
theorem ggX4_deckAt_X4_within : GoodIn wsX4_deckAt wsX4_within := goodIn_r _ [5] (by decide +kernel) (by decide +kernel)
set_option maxRecDepth 20000 in
theorem gX4_deckAt_X4_within : GoodIn wsX4_deckAt (va_wsS RX4 29 yX4_within wsX4_within) := goodIn_app (goodIn_of _ (by decide +kernel)) ggX4_deckAt_X4_within
theorem dX4_deckAt_0 : decode cX4_deckAt 0 = .ok (.iload_n 1, 1) := by decide +kernel
theorem dX4_deckAt_1 : decode cX4_deckAt 1 = .ok (.iconst 0, 1) := by decide +kernel
theorem dX4_deckAt_2 : decode cX4_deckAt 2 = .ok (.iconst 2, 1) := by decide +kernel
theorem dX4_deckAt_3 : decode cX4_deckAt 3 = .ok (.invokestatic 29, 3) := by decide +kernel
theorem dX4_deckAt_6 : decode cX4_deckAt 6 = .ok (.ifCond .eq 12, 3) := by decide +kernel
theorem dX4_deckAt_9 : decode cX4_deckAt 9 = .ok (.aload_n 0, 1) := by decide +kernel
theorem dX4_deckAt_10 : decode cX4_deckAt 10 = .ok (.getfield 17, 3) := by decide +kernel
theorem dX4_deckAt_13 : decode cX4_deckAt 13 = .ok (.iload_n 1, 1) := by decide +kernel
theorem dX4_deckAt_14 : decode cX4_deckAt 14 = .ok (.aaload, 1) := by decide +kernel
theorem dX4_deckAt_15 : decode cX4_deckAt 15 = .ok (.goto 4, 3) := by decide +kernel
theorem dX4_deckAt_18 : decode cX4_deckAt 18 = .ok (.aconst_null, 1) := by decide +kernel
theorem dX4_deckAt_19 : decode cX4_deckAt 19 = .ok (.areturn, 1) := by decide +kernel
set_option maxRecDepth 20000 in
theorem ggX4_beginAct_X0_begin : GoodIn wsX4_beginAct wsX0_begin := goodIn_r _ [7, 8, 9, 10, 20, 21, 22, 23, 24] (by decide +kernel) (by decide +kernel)
set_option maxRecDepth 20000 in
theorem gX4_beginAct_X0_begin : GoodIn wsX4_beginAct (wsV RX4 149 RX0 yX0_begin wsX0_begin) := goodIn_app (goodIn_of _ (by decide +kernel)) ggX4_beginAct_X0_begin
theorem dX4_beginAct_0 : decode cX4_beginAct 0 = .ok (.aload_n 0, 1) := by decide +kernel
theorem dX4_beginAct_1 : decode cX4_beginAct 1 = .ok (.dup, 1) := by decide +kernel
theorem dX4_beginAct_2 : decode cX4_beginAct 2 = .ok (.getfield 140, 3) := by decide +kernel
theorem dX4_beginAct_5 : decode cX4_beginAct 5 = .ok (.iconst 1, 1) := by decide +kernel
theorem dX4_beginAct_6 : decode cX4_beginAct 6 = .ok (.iadd, 1) := by decide +kernel
theorem dX4_beginAct_7 : decode cX4_beginAct 7 = .ok (.putfield 140, 3) := by decide +kernel
theorem dX4_beginAct_10 : decode cX4_beginAct 10 = .ok (.aload_n 0, 1) := by decide +kernel
theorem dX4_beginAct_11 : decode cX4_beginAct 11 = .ok (.getfield 25, 3) := by decide +kernel
theorem dX4_beginAct_14 : decode cX4_beginAct 14 = .ok (.invokevirtual 149, 3) := by decide +kernel
theorem dX4_beginAct_17 : decode cX4_beginAct 17 = .ok (.return_, 1) := by decide +kernel
theorem dX4_endByFailure_0 : decode cX4_endByFailure 0 = .ok (.aload_n 0, 1) := by decide +kernel
theorem dX4_endByFailure_1 : decode cX4_endByFailure 1 = .ok (.dup, 1) := by decide +kernel
theorem dX4_endByFailure_2 : decode cX4_endByFailure 2 = .ok (.getfield 143, 3) := by decide +kernel
theorem dX4_endByFailure_5 : decode cX4_endByFailure 5 = .ok (.iconst 1, 1) := by decide +kernel
theorem dX4_endByFailure_6 : decode cX4_endByFailure 6 = .ok (.iadd, 1) := by decide +kernel
theorem dX4_endByFailure_7 : decode cX4_endByFailure 7 = .ok (.putfield 143, 3) := by decide +kernel
theorem dX4_endByFailure_10 : decode cX4_endByFailure 10 = .ok (.aload_n 0, 1) := by decide +kernel
theorem dX4_endByFailure_11 : decode cX4_endByFailure 11 = .ok (.getfield 25, 3) := by decide +kernel
theorem dX4_endByFailure_14 : decode cX4_endByFailure 14 = .ok (.getfield 152, 3) := by decide +kernel
theorem dX4_endByFailure_17 : decode cX4_endByFailure 17 = .ok (.ireturn, 1) := by decide +kernel
theorem dJ9_max_7cf53_0 : decode cJ9_max_7cf53 0 = .ok (.iload_n 0, 1) := by decide +kernel
theorem dJ9_max_7cf53_1 : decode cJ9_max_7cf53 1 = .ok (.iload_n 1, 1) := by decide +kernel
theorem dJ9_max_7cf53_2 : decode cJ9_max_7cf53 2 = .ok (.if_icmp .lt 7, 3) := by decide +kernel
theorem dJ9_max_7cf53_5 : decode cJ9_max_7cf53 5 = .ok (.iload_n 0, 1) := by decide +kernel
theorem dJ9_max_7cf53_6 : decode cJ9_max_7cf53 6 = .ok (.goto 4, 3) := by decide +kernel
theorem dJ9_max_7cf53_9 : decode cJ9_max_7cf53 9 = .ok (.iload_n 1, 1) := by decide +kernel
theorem dJ9_max_7cf53_10 : decode cJ9_max_7cf53 10 = .ok (.ireturn, 1) := by decide +kernel
end
section
/-! ===== the constants of a run, the environment that no method changes, contracts over a state, calls by them ===== -/
/-- class numbers, slots, the classes of int[], Vehicle[], Deck[], the places of the two tables -/
abbrev gC : Type := (Nat → ClassId) × (Nat → Nat → Nat) × ClassId × ClassId × ClassId × Nat × Nat
abbrev gD (G : gC) : va_G := (G.1, G.2.1)
abbrev gI (G : gC) : ClassId := G.2.2.1
abbrev gV (G : gC) : ClassId := G.2.2.2.1
abbrev gQ (G : gC) : ClassId := G.2.2.2.2.1
abbrev gO (G : gC) : Nat := G.2.2.2.2.2.1
abbrev gA (G : gC) : Nat := G.2.2.2.2.2.2
def ownL : List Int32 := [0, 0, 2, 2, 4, 4, 6, 6, 6, 9, 0, 1, 1, 3, 3, 5, 0, 7, 7, 9, 0, 0, 2, 2, 4, 4, 6, 6, 8, 9, 0, 0, 2, 2, 4, 4, 0, 7, 8, 9, 0, 0, 0, 3, 3, 5, 0, 0, 8, 8, -1, -1, -1, 0, 0, 5, -1, 0, 0, 0, -1, -1, -1, 3, 3, 5, -1, 7, 7, 9]
def abvL : List Int32 := [-1, 0, 1, 2, 3, 4, 0, 6, 7, 8]
def ownF (j : Nat) : Int32 := ownL.getD j 0
def abvF (j : Nat) : Int32 := abvL.getD j 0
abbrev gTy (G : gC) : List (ClassId × FieldType) := [(gI G, .int), (gV G, .object RX3), (gQ G, .object RX1)]
def gE (G : gC) (A : Nat → Prop) (U : State) : Prop :=
  va_K (gD G) vwCl (gTy G) U ∧
  (va_Nw (.fieldLinkNest RX0 77 RX4 "ABOVE" "[I" RX4) U ∧ va_Nw (.methodLinkNest RX0 38 yX4_ownerOf RX4) U ∧ va_Nw (.methodLinkNest RX0 73 yX4_within RX4) U ∧ va_Nw (.methodLinkNest RX2 19 yX4_within RX4) U) ∧
  (va_Z RX4 "OWNERS" "[I" (.ref (gO G)) A U U.heap ∧ va_T .int (gO G) 70 (fun j => .int (ownF j)) A U U.heap) ∧
  va_Z RX4 "ABOVE" "[I" (.ref (gA G)) A U U.heap ∧ va_T .int (gA G) 10 (fun j => .int (abvF j)) A U U.heap
theorem gE.calling {G : gC} {A : Nat → Prop} {U : State} (h : gE G A U) (g : JFrame) (mk : MethodId) (a : Array Value) : gE G A (U.calling g mk a) := by
  obtain ⟨h1, ⟨n1, n2, n3, n4⟩, ⟨z1, t1⟩, z2, t2⟩ := h
  exact ⟨va_K.moved (u := U) (U := U.calling g mk a) (Vm.Alike.refl U.vm) h1, ⟨va_Nw.same rfl rfl n1, va_Nw.same rfl rfl n2, va_Nw.same rfl rfl n3, va_Nw.same rfl rfl n4⟩,
    ⟨va_Z.moved (u := U) (U := U.calling g mk a) (Vm.Alike.refl U.vm) z1, va_T.moved (u := U) (U := U.calling g mk a) (Vm.Alike.refl U.vm) t1⟩,
    va_Z.moved (u := U) (U := U.calling g mk a) (Vm.Alike.refl U.vm) z2, va_T.moved (u := U) (U := U.calling g mk a) (Vm.Alike.refl U.vm) t2⟩
theorem gE.to {G : gC} {A B : Nat → Prop} {s U : State} {H : Heap} {locs : List Loc} (h : gE G A s) (hS : va_S A s.heap H locs) (hAB : ∀ q, B q → A q) (hU : U.heap = H) (hW : s.WarmedH U.vm) : gE G B U := by
  obtain ⟨h1, ⟨n1, n2, n3, n4⟩, ⟨z1, t1⟩, z2, t2⟩ := h
  subst hU
  exact ⟨va_K.moved hW.alike h1, ⟨va_Nw.warmF hW n1, va_Nw.warmM hW n2, va_Nw.warmM hW n3, va_Nw.warmM hW n4⟩,
    ⟨((va_Z.moved hW.alike z1).kept hS.2.1).narrow hAB, ((va_T.moved hW.alike t1).kept hS.2.1).narrow hAB⟩,
    ((va_Z.moved hW.alike z2).kept hS.2.1).narrow hAB, ((va_T.moved hW.alike t2).kept hS.2.1).narrow hAB⟩
/-- a method's start over a world, its ends -/
def gP (G : gC) (A : Nat → Prop) (ws : va_W) (av : List Value) : Array Value → State → Prop := va_Pc av (fun U => gE G A U ∧ va_P (gD G) vwCl ws U.heap ∧ va_D A ws)
def gB (G : gC) (A : Nat → Prop) {S : Type} (Wd : S → va_W) (ok : S → Prop) (u : S) (t : State) : Prop := va_P (gD G) vwCl (Wd u) t.heap ∧ va_D A (Wd u) ∧ ok u
abbrev gQi (G : gC) (A : Nat → Prop) {S : Type} (Wd : S → va_W) (ok : S → Prop) (f : Int32 × S) := va_Qi (fun r u => (r, u) = f) (gB G A Wd ok) A
abbrev gQl (G : gC) (A : Nat → Prop) {S : Type} (Wd : S → va_W) (ok : S → Prop) (f : Int64 × S) := va_Ql (fun r u => (r, u) = f) (gB G A Wd ok) A
abbrev gQv (G : gC) (A : Nat → Prop) {S : Type} (Wd : S → va_W) (ok : S → Prop) (f : S) := va_Qv (fun u => u = f) (gB G A Wd ok) A
/-- contracts: int, long, void over a world; int of a static method that changes nothing -/
def CI (l : Launch) (y : MethodName) (wy : List Cond) (rm : Room) (G : gC) (A : Nat → Prop) {S : Type} (Wd : S → va_W) (ok : S → Prop) (av : List Value) (u : S) (f : Int32 × S) : Prop := Met l y wy rm (gP G A (Wd u) av) (gQi G A Wd ok f) 0 0 A
def CL (l : Launch) (y : MethodName) (wy : List Cond) (rm : Room) (G : gC) (A : Nat → Prop) {S : Type} (Wd : S → va_W) (ok : S → Prop) (av : List Value) (u : S) (f : Int64 × S) : Prop := Met l y wy rm (gP G A (Wd u) av) (gQl G A Wd ok f) 0 0 A
def CV (l : Launch) (y : MethodName) (wy : List Cond) (rm : Room) (G : gC) (A : Nat → Prop) {S : Type} (Wd : S → va_W) (ok : S → Prop) (av : List Value) (u f : S) : Prop := Met l y wy rm (gP G A (Wd u) av) (gQv G A Wd ok f) 0 0 A
def CS (l : Launch) (y : MethodName) (wy : List Cond) (rm : Room) (G : gC) (A : Nat → Prop) (av : List Value) (f : Int32) : Prop := Met l y wy rm (va_Pc av (fun U => gE G A U)) (vp_Si (fun r => r = f)) 0 0 (fun _ => False)
theorem gP.blind {G : gC} {A : Nat → Prop} {ws : va_W} {av : List Value} : FrameBlind (gP G A ws av) := fun a U g mk q => ⟨q.1, q.2.1.calling g mk a, q.2.2⟩
/-- what a body's walk stands on -/
abbrev gX (p : Program) (s : State) (m : MethodId) (args : Array Value) (meth : Method) (c : Code) (cc : ByteArray) (nL : Nat) (Ts : List Cond) (own : String) (ret : Option FieldType) : Prop :=
  CallFix p m c cc nL s args Ts own ∧ meth.sig.returnType = ret ∧ meth.locks = false
section GCALL
variable {p : Program} {l : Launch} {e : Env} {R : Room} {s : State} {m : MethodId} {args : Array Value} {below : List Frame} {meth : Method} {c : Code} {H : Heap} {locs : List Loc} {cells slots : Nat} {Q : State → Prop}
variable {pc : Nat} {ls : Array Slot} {rest st As : List Value} {G : gC} {A : Nat → Prop} {S : Type} {Wd : S → va_W} {ok : S → Prop} {u : S}
variable {y : MethodName} {bytes cc : ByteArray} {maxL nL n index : Nat} {ret : Option FieldType} {wy Ts : List Cond} {rm : Room} {own C : String} {b : Nat}
theorem gVi {f : Int32 × S} (F : CallFix p m c cc nL s args Ts own) (hM : CI l y wy rm G A Wd ok (.ref b :: As) u f) (cw : CallW R s args own C index y bytes maxL ret wy rm 0 0 n) (hE : gE G A s) (hP : va_P (gD G) vwCl (Wd u) H) (hD : va_D A (Wd u)) (hS : va_S A s.heap H locs) (hrec : ∃ cell : Cell, H[b]? = some cell ∧ cell.vm.isStatics = false ∧ s.vm.findClass C = some cell.cls) (hn : As.length = n) (hsz : ls.size = nL) (hst : st = As.reverse ++ .ref b :: rest) (hW : (rest.map fun v => v.category).sum ≤ 8) (hdg : decode cc pc = .ok (.invokevirtual index, 3)) (hf : cells ≤ R.cells ∧ slots ≤ R.slots)
    (kk : ∀ (q : Int32 × S) (H1 : Heap) (locs1 : List Loc), q = f → va_P (gD G) vwCl (Wd q.2) H1 → va_D A (Wd q.2) → ok q.2 → va_S A s.heap H1 locs1 → W p l e R s m args below meth c H1 locs1 cells slots Q (F0 m (pc + 3) ls (.int q.1 :: rest))) : W p l e R s m args below meth c H locs cells slots Q (F0 m pc ls st) :=
  va_calli (va_runV (rest := rest) F hM cw ⟨gP.blind, hrec, fun U hU hW1 => ⟨rfl, hE.to hS (fun _ h => h) hU hW1, by rw [hU]; exact hP, hD⟩⟩ rfl hn hsz hst (lv_room hW) hdg hf) hS (fun _ _ h => h) (fun _ h => h) (fun r u' t H1 locs1 ht _ hp hB _ _ hS1 => kk (r, u') H1 locs1 hp (by rw [← ht]; exact hB.1) hB.2.1 hB.2.2 hS1)
theorem gVl {f : Int64 × S} (F : CallFix p m c cc nL s args Ts own) (hM : CL l y wy rm G A Wd ok (.ref b :: As) u f) (cw : CallW R s args own C index y bytes maxL ret wy rm 0 0 n) (hE : gE G A s) (hP : va_P (gD G) vwCl (Wd u) H) (hD : va_D A (Wd u)) (hS : va_S A s.heap H locs) (hrec : ∃ cell : Cell, H[b]? = some cell ∧ cell.vm.isStatics = false ∧ s.vm.findClass C = some cell.cls) (hn : As.length = n) (hsz : ls.size = nL) (hst : st = As.reverse ++ .ref b :: rest) (hW : (rest.map fun v => v.category).sum ≤ 8) (hdg : decode cc pc = .ok (.invokevirtual index, 3)) (hf : cells ≤ R.cells ∧ slots ≤ R.slots)
    (kk : ∀ (q : Int64 × S) (H1 : Heap) (locs1 : List Loc), q = f → va_P (gD G) vwCl (Wd q.2) H1 → va_D A (Wd q.2) → ok q.2 → va_S A s.heap H1 locs1 → W p l e R s m args below meth c H1 locs1 cells slots Q (F0 m (pc + 3) ls (.long q.1 :: rest))) : W p l e R s m args below meth c H locs cells slots Q (F0 m pc ls st) :=
  va_calll (va_runV (rest := rest) F hM cw ⟨gP.blind, hrec, fun U hU hW1 => ⟨rfl, hE.to hS (fun _ h => h) hU hW1, by rw [hU]; exact hP, hD⟩⟩ rfl hn hsz hst (lv_room hW) hdg hf) hS (fun _ _ h => h) (fun _ h => h) (fun r u' t H1 locs1 ht _ hp hB _ _ hS1 => kk (r, u') H1 locs1 hp (by rw [← ht]; exact hB.1) hB.2.1 hB.2.2 hS1)
theorem gVv {f : S} (F : CallFix p m c cc nL s args Ts own) (hM : CV l y wy rm G A Wd ok (.ref b :: As) u f) (cw : CallW R s args own C index y bytes maxL ret wy rm 0 0 n) (hE : gE G A s) (hP : va_P (gD G) vwCl (Wd u) H) (hD : va_D A (Wd u)) (hS : va_S A s.heap H locs) (hrec : ∃ cell : Cell, H[b]? = some cell ∧ cell.vm.isStatics = false ∧ s.vm.findClass C = some cell.cls) (hn : As.length = n) (hsz : ls.size = nL) (hst : st = As.reverse ++ .ref b :: rest) (hW : (rest.map fun v => v.category).sum ≤ 8) (hdg : decode cc pc = .ok (.invokevirtual index, 3)) (hf : cells ≤ R.cells ∧ slots ≤ R.slots)
    (kk : ∀ (q : S) (H1 : Heap) (locs1 : List Loc), q = f → va_P (gD G) vwCl (Wd q) H1 → va_D A (Wd q) → ok q → va_S A s.heap H1 locs1 → W p l e R s m args below meth c H1 locs1 cells slots Q (F0 m (pc + 3) ls rest)) : W p l e R s m args below meth c H locs cells slots Q (F0 m pc ls st) :=
  va_callv (va_runV (rest := rest) F hM cw ⟨gP.blind, hrec, fun U hU hW1 => ⟨rfl, hE.to hS (fun _ h => h) hU hW1, by rw [hU]; exact hP, hD⟩⟩ rfl hn hsz hst (lv_room hW) hdg hf) hS (fun _ _ h => h) (fun _ h => h) (fun u' t H1 locs1 ht _ hp hB _ _ hS1 => kk u' H1 locs1 hp (by rw [← ht]; exact hB.1) hB.2.1 hB.2.2 hS1)
/-- a static method that changes nothing -/
theorem gSi {f : Int32} (F : CallFix p m c cc nL s args Ts own) (hM : CS l y wy rm G A As f) (cw : CallB R s args own index y bytes maxL ret wy rm 0 0 n ∧ (Cond.static y).before args s = true) (hE : gE G A s) (hS : va_S A s.heap H locs) (hn : As.length = n) (hsz : ls.size = nL) (hst : st = As.reverse ++ rest) (hW : (rest.map fun v => v.category).sum ≤ 8) (hdg : decode cc pc = .ok (.invokestatic index, 3)) (hf : cells ≤ R.cells ∧ slots ≤ R.slots)
    (kk : ∀ q : Int32, q = f → W p l e R s m args below meth c H locs cells slots Q (F0 m (pc + 3) ls (.int q :: rest))) : W p l e R s m args below meth c H locs cells slots Q (F0 m pc ls st) :=
  vp_callSi (va_Run.run (va_runS (rest := rest) F hM cw ⟨fun a U g mk q => ⟨q.1, gE.calling q.2 g mk a⟩, fun U hU hW1 => ⟨rfl, hE.to hS (fun _ h => h) hU hW1⟩⟩ rfl hn hsz hst (lv_room hW) hdg hf)) (fun r hr => kk r hr)
theorem gNi {f : Int32} {host : String} (F : CallFix p m c cc nL s args Ts own) (hM : CS l y wy rm G A As f) (cw : va_CN R s args own index y host bytes maxL ret wy rm 0 0 n ∧ (Cond.static y).before args s = true ∧ True) (hE : gE G A s) (hS : va_S A s.heap H locs) (hn : As.length = n) (hsz : ls.size = nL) (hst : st = As.reverse ++ rest) (hW : (rest.map fun v => v.category).sum ≤ 8) (hdg : decode cc pc = .ok (.invokestatic index, 3)) (hf : cells ≤ R.cells ∧ slots ≤ R.slots)
    (kk : ∀ q : Int32, q = f → W p l e R s m args below meth c H locs cells slots Q (F0 m (pc + 3) ls (.int q :: rest))) : W p l e R s m args below meth c H locs cells slots Q (F0 m pc ls st) :=
  vp_callSi (va_Run.run (va_runSN (rest := rest) F hM cw ⟨fun a U g mk q => ⟨q.1, gE.calling q.2 g mk a⟩, fun U hU hW1 => ⟨rfl, hE.to hS (fun _ h => h) hU hW1⟩⟩ rfl hn hsz hst (lv_room hW) hdg hf)) (fun r hr => kk r hr)
/-- ends -/
theorem gRi {f : Int32 × S} {v : Int32} {cc : ByteArray} (hx : p.tables.exec = Jvm.exec) (hb : c.code = cc) (hr : meth.sig.returnType = some .int) (hlk : meth.locks = false) (hP : va_P (gD G) vwCl (Wd u) H) (hD : va_D A (Wd u)) (ho : ok u) (hS : va_S A s.heap H locs) (he : (v, u) = f) (hdg : decode cc pc = .ok (.ireturn, 1)) : W p l e R s m args below meth c H locs cells slots (MQ below (gQi G A Wd ok f) args s cells slots A) (F0 m pc ls [.int v]) :=
  W.iret (v := v) hx hb hr (fun t ht _ => ⟨⟨v, u, rfl, he, by rw [ht]; exact hP, hD, ho⟩, hS.F ht⟩) hS.2.2 hdg hlk
theorem gRz {f : Int32 × S} {v : Int32} {cc : ByteArray} (hx : p.tables.exec = Jvm.exec) (hb : c.code = cc) (hr : meth.sig.returnType = some .boolean) (hlk : meth.locks = false) (hn : narrow .boolean (.int v) = .int v) (hP : va_P (gD G) vwCl (Wd u) H) (hD : va_D A (Wd u)) (ho : ok u) (hS : va_S A s.heap H locs) (he : (v, u) = f) (hdg : decode cc pc = .ok (.ireturn, 1)) : W p l e R s m args below meth c H locs cells slots (MQ below (gQi G A Wd ok f) args s cells slots A) (F0 m pc ls [.int v]) :=
  W.zret (v := v) (ty := .boolean) hx hb hr hn (fun t ht _ => ⟨⟨v, u, rfl, he, by rw [ht]; exact hP, hD, ho⟩, hS.F ht⟩) hS.2.2 hdg hlk
theorem gRl {f : Int64 × S} {v : Int64} {cc : ByteArray} (hx : p.tables.exec = Jvm.exec) (hb : c.code = cc) (hr : meth.sig.returnType = some .long) (hlk : meth.locks = false) (hP : va_P (gD G) vwCl (Wd u) H) (hD : va_D A (Wd u)) (ho : ok u) (hS : va_S A s.heap H locs) (he : (v, u) = f) (hdg : decode cc pc = .ok (.lreturn, 1)) : W p l e R s m args below meth c H locs cells slots (MQ below (gQl G A Wd ok f) args s cells slots A) (F0 m pc ls [.long v]) :=
  W.lret (v := v) hx hb hr (fun t ht _ => ⟨⟨v, u, rfl, he, by rw [ht]; exact hP, hD, ho⟩, hS.F ht⟩) hS.2.2 hdg hlk
theorem gRv {f : S} {cc : ByteArray} (hx : p.tables.exec = Jvm.exec) (hb : c.code = cc) (hr : meth.sig.returnType = none) (hlk : meth.locks = false) (hP : va_P (gD G) vwCl (Wd u) H) (hD : va_D A (Wd u)) (ho : ok u) (hS : va_S A s.heap H locs) (he : u = f) (hdg : decode cc pc = .ok (.return_, 1)) : W p l e R s m args below meth c H locs cells slots (MQ below (gQv G A Wd ok f) args s cells slots A) (F0 m pc ls []) :=
  W.vret hx hb hr (fun t ht _ => ⟨⟨u, rfl, he, by rw [ht]; exact hP, hD, ho⟩, hS.F ht⟩) hS.2.2 hdg hlk
theorem gRsi {f v : Int32} {cc : ByteArray} (hx : p.tables.exec = Jvm.exec) (hb : c.code = cc) (hr : meth.sig.returnType = some .int) (hlk : meth.locks = false) (he : v = f) (hdg : decode cc pc = .ok (.ireturn, 1)) : W p l e R s m args below meth c s.heap [] cells slots (MQ below (vp_Si (fun r => r = f)) args s cells slots (fun _ => False)) (F0 m pc ls [.int v]) :=
  W.iret (v := v) hx hb hr (fun t ht _ => ⟨v, rfl, he, ht⟩) (fun _ h => by cases h) hdg hlk
theorem gRsz {f v : Int32} {cc : ByteArray} (hx : p.tables.exec = Jvm.exec) (hb : c.code = cc) (hr : meth.sig.returnType = some .boolean) (hlk : meth.locks = false) (hn : narrow .boolean (.int v) = .int v) (he : v = f) (hdg : decode cc pc = .ok (.ireturn, 1)) : W p l e R s m args below meth c s.heap [] cells slots (MQ below (vp_Si (fun r => r = f)) args s cells slots (fun _ => False)) (F0 m pc ls [.int v]) :=
  W.zret (v := v) (ty := .boolean) hx hb hr hn (fun t ht _ => ⟨v, rfl, he, ht⟩) (fun _ h => by cases h) hdg hlk
end GCALL
/-- a table switch by one number -/
def tsO (d lo hi : Int) (offs : Array Int) (t : Int) : Int := if t < lo ∨ hi < t then d else offs.getD (t - lo).toNat d
theorem gTs {p : Program} {l : Launch} {e : Env} {R : Room} {s : State} {m : MethodId} {args : Array Value} {below : List Frame} {meth : Method} {c : Code} {H : Heap} {locs : List Loc} {cells slots : Nat} {Q : State → Prop} {cc : ByteArray} {pc : Nat} {ls : Array Slot} {rest : List Value} (hexec : p.tables.exec = Jvm.exec) (hb : c.code = cc) {dflt lo hi : Int} {offs : Array Int} {len : Nat} {x : Int32} {off : Int} {tgt : Nat} (hdg : decode cc pc = .ok (.tableswitch dflt lo hi offs, len)) (hs : hi - lo + 1 = (offs.size : Int)) (ho : tsO dflt lo hi offs x.toInt = off) (ht : (pc : Int) + off = (tgt : Int))
    (k : W p l e R s m args below meth c H locs cells slots Q (F0 m tgt ls rest)) : W p l e R s m args below meth c H locs cells slots Q (F0 m pc ls (.int x :: rest)) := by
  unfold tsO at ho
  by_cases h : x.toInt < lo ∨ hi < x.toInt
  · rw [if_pos h] at ho
    subst ho
    exact lv_tableOut hexec hb hdg h ht k
  · rw [if_neg h] at ho
    have h1 : ¬ x.toInt < lo := fun z => h (Or.inl z)
    have h2 : ¬ hi < x.toInt := fun z => h (Or.inr z)
    have h3 : (x.toInt - lo).toNat < offs.size := by omega
    refine lv_tableIn hexec hb hdg h1 h2 (off := off) ?_ ht k
    rw [← ho, Array.getD_eq_getD_getElem?, Array.getElem?_eq_getElem h3]
    rfl
theorem gIn {i : Int32} {n : Nat} (hn : n < 2 ^ 31) (h0 : 0 ≤ i) (h1 : i < Int32.ofNat n) : vp_in i n := by
  rw [vp_in_iff]
  have a1 : (0 : Int32).toInt ≤ i.toInt := Int32.le_iff_toInt_le.mp h0
  have a2 : i.toInt < (Int32.ofNat n).toInt := Int32.lt_iff_toInt_lt.mp h1
  have a3 : (Int32.ofNat n).toInt = (n : Int) := nI_toInt hn
  have a0 : (0 : Int32).toInt = 0 := by decide
  omega
end
section
-- FerryDecks.within
def f_X4_within (a0 : Int32) (a1 : Int32) (a2 : Int32) : Int32 :=
  (if a0 < a1 then (0 : Int32) else (if a2 < a0 then (0 : Int32) else (1 : Int32)))
set_option maxHeartbeats 4000000 in
set_option maxRecDepth 100000 in
theorem c_X4_within_0 {p : Program} {e : Env} {s : State} {m : MethodId} {args : Array Value} {below : List Frame} {meth : Method} {c : Code} (l : Launch) (G : gC) (A : Nat → Prop) (C0 : gX p s m args meth c cX4_within 3 wsX4_within RX4 (some .boolean)) (hE : gE G A s) (a0 : Int32) (a1 : Int32) (a2 : Int32) (hS : va_S A s.heap s.heap []) {ls : Array Slot} (hl : lv_has ls 3 [(0, .int a0), (1, .int a1), (2, .int a2)]) {fv : Int32} (hfv : f_X4_within a0 a1 a2 = fv) : W p l e ({ frames := 0, cells := 0, slots := 0, locals := 0 } : Room) s m args below meth c s.heap [] 0 0 (MQ below (vp_Si (fun r => r = fv)) args s 0 0 (fun _ => False)) (F0 m 0 ls []) := by
  obtain ⟨⟨hx, hb, hml, hown, hts⟩, hr, hlk⟩ := id C0
  refine lv_iload_n hx hb dX4_within_0 rfl (lv_at hl 0 rfl) ?_
  refine lv_iload_n hx hb dX4_within_1 rfl (lv_at hl 1 rfl) ?_
  refine lv_icmp_lt (tgt := 14) hx hb dX4_within_2 (by decide) (fun c2 => ?_) (fun c2 => ?_)
  · refine lv_iconst (v := 0) hx hb dX4_within_14 (by decide) ?_
    exact gRsz hx hb hr hlk (by decide) (by rw [← hfv, f_X4_within, if_pos c2]) dX4_within_15
  · refine lv_iload_n hx hb dX4_within_5 rfl (lv_at hl 0 rfl) ?_
    refine lv_iload_n hx hb dX4_within_6 rfl (lv_at hl 2 rfl) ?_
    refine lv_icmp_gt (tgt := 14) hx hb dX4_within_7 (by decide) (fun c7 => ?_) (fun c7 => ?_)
    · refine lv_iconst (v := 0) hx hb dX4_within_14 (by decide) ?_
      exact gRsz hx hb hr hlk (by decide) (by rw [← hfv, f_X4_within, if_neg c2, if_pos c7]) dX4_within_15
    · refine lv_iconst (v := 1) hx hb dX4_within_10 (by decide) ?_
      refine lv_goto (tgt := 15) hx hb dX4_within_11 (by decide) ?_
      exact gRsz hx hb hr hlk (by decide) (by rw [← hfv, f_X4_within, if_neg c2, if_neg c7]) dX4_within_15
set_option maxHeartbeats 4000000 in
set_option maxRecDepth 100000 in
theorem c_X4_within (l : Launch) (G : gC) (A : Nat → Prop) (a0 : Int32) (a1 : Int32) (a2 : Int32) : CS l yX4_within wsX4_within ({ frames := 0, cells := 0, slots := 0, locals := 0 } : Room) G A [.int a0, .int a1, .int a2] (f_X4_within a0 a1 a2) := by
  refine Met.ofW (cc := cX4_within) (maxL := 3) (ret := (some .boolean)) (by decide) rfl ?_
  intro p e s m args below meth c s₁ B hml hv
  obtain ⟨rfl, hE⟩ := hv
  have hl := lv_entry ([.int a0, .int a1, .int a2]) (n := 3) (Nat.le_of_ble_eq_true rfl)
  rw [lg_entry_eq]
  generalize (lg_sl ([.int a0, .int a1, .int a2]) ++ List.replicate (3 - (lg_sl ([.int a0, .int a1, .int a2])).length) Slot.unset).toArray = ls at hl ⊢
  exact c_X4_within_0 l G A ⟨⟨B.exec, B.bytes, hml, findClass_of_methodNamed B.named, atoms_spec (ws := wsX4_within) B.pre⟩, B.returns, B.notSynchronized⟩ hE a0 a1 a2 va_S.rf hl rfl

theorem within_iff (a b d : Int32) : f_X4_within a b d = if b ≤ a ∧ a ≤ d then 1 else 0 := by
  unfold f_X4_within
  by_cases h1 : a < b
  · rw [if_pos h1, if_neg (fun h => absurd h1 (Int32.not_lt.mpr h.1))]
  · rw [if_neg h1]
    by_cases h2 : d < a
    · rw [if_pos h2, if_neg (fun h => absurd h2 (Int32.not_lt.mpr h.2))]
    · rw [if_neg h2, if_pos ⟨Int32.not_lt.mp h1, Int32.not_lt.mp h2⟩]
theorem within_of {a b d : Int32} (h : ¬ f_X4_within a b d = 0) : b ≤ a ∧ a ≤ d := by
  rw [within_iff] at h
  by_cases h2 : b ≤ a ∧ a ≤ d
  · exact h2
  · rw [if_neg h2] at h; exact absurd rfl h
theorem nI_w {x : Int32} {n : Nat} (hn : n < 2 ^ 31) (h : 0 ≤ x ∧ x ≤ nI n) : ∃ j : Nat, j ≤ n ∧ x = nI j := by
  obtain ⟨j, hj, rfl⟩ := nI_of (x := x) (by rw [Int32.not_lt]; exact h.1)
  exact ⟨j, (nI_leI hj hn).mp h.2, rfl⟩
theorem ownIn {mb kd : Int32} (h1 : ¬ f_X4_within mb 0 6 = 0) (h2 : ¬ f_X4_within kd 0 9 = 0) : vp_in (10 * mb + kd) 70 := by
  obtain ⟨i, hi, rfl⟩ := nI_w (n := 6) (by omega) (within_of h1)
  obtain ⟨j, hj, rfl⟩ := nI_w (n := 9) (by omega) (within_of h2)
  rw [show (10 : Int32) = nI 10 from rfl, pk_mul, nI_add]
  exact vp_in_nI (by omega) (by omega)
theorem abvIn {kd : Int32} (h2 : ¬ f_X4_within kd 0 9 = 0) : vp_in kd 10 := by
  obtain ⟨j, hj, rfl⟩ := nI_w (n := 9) (by omega) (within_of h2)
  exact vp_in_nI (by omega) (by omega)

-- FerryDecks.ownerOf
def f_X4_ownerOf_k14 (mb : Int32) (kd : Int32) (q14 : Int32) : Int32 :=
  (if q14 = 0 then (-1 : Int32) else ownF ((((10 : Int32) * mb) + kd) : Int32).toNatClampNeg)
def f_X4_ownerOf_k4 (mb : Int32) (kd : Int32) (q4 : Int32) : Int32 :=
  (if q4 = 0 then (-1 : Int32) else (f_X4_ownerOf_k14 mb kd (f_X4_within kd (0 : Int32) (9 : Int32))))
def f_X4_ownerOf (mb : Int32) (kd : Int32) : Int32 :=
  (f_X4_ownerOf_k4 mb kd (f_X4_within mb (0 : Int32) (6 : Int32)))
set_option maxHeartbeats 4000000 in
set_option maxRecDepth 100000 in
theorem c_X4_ownerOf_0 {p : Program} {e : Env} {s : State} {m : MethodId} {args : Array Value} {below : List Frame} {meth : Method} {c : Code} (l : Launch) (G : gC) (A : Nat → Prop) (C0 : gX p s m args meth c cX4_ownerOf 2 wsX4_ownerOf RX4 (some .int)) (hE : gE G A s) (mb : Int32) (kd : Int32) (hS : va_S A s.heap s.heap []) {ls : Array Slot} (hl : lv_has ls 2 [(0, .int mb), (1, .int kd)]) {fv : Int32} (hfv : f_X4_ownerOf mb kd = fv) : W p l e ({ frames := 1, cells := 0, slots := 0, locals := 22 } : Room) s m args below meth c s.heap [] 0 0 (MQ below (vp_Si (fun r => r = fv)) args s 0 0 (fun _ => False)) (F0 m 0 ls []) := by
  obtain ⟨⟨hx, hb, hml, hown, hts⟩, hr, hlk⟩ := id C0
  have k0 := hts (.fieldLink RX4 146 "FerryDecks" "OWNERS" "[I") (by decide +kernel)
  refine lv_iload_n hx hb dX4_ownerOf_0 rfl (lv_at hl 0 rfl) ?_
  refine lv_iconst (v := 0) hx hb dX4_ownerOf_1 (by decide) ?_
  refine lv_bipush (v := 6) hx hb dX4_ownerOf_2 (by decide) ?_
  refine gSi (As := [.int mb, .int (0 : Int32), .int (6 : Int32)]) (rest := []) ⟨hx, hb, hml, hown, hts⟩ (c_X4_within l G A mb (0 : Int32) (6 : Int32)) (va_cwS 3 hts gX4_ownerOf_X4_within rfl rfl rfl (by decide +kernel) ⟨Nat.le_of_ble_eq_true rfl, Nat.le_of_ble_eq_true rfl⟩) hE hS rfl hl.1 rfl (Nat.le_of_ble_eq_true rfl) dX4_ownerOf_4 ⟨Nat.zero_le _, Nat.zero_le _⟩ (fun q4 e4 => ?_)
  refine lv_if_eq (tgt := 20) hx hb dX4_ownerOf_7 (by decide) (fun c7 => ?_) (fun c7 => ?_)
  · refine lv_iconst (v := -1) hx hb dX4_ownerOf_20 (by decide) ?_
    exact gRsi hx hb hr hlk (by rw [← hfv, f_X4_ownerOf, ← e4, f_X4_ownerOf_k4, if_pos c7]) dX4_ownerOf_21
  · refine lv_iload_n hx hb dX4_ownerOf_10 rfl (lv_at hl 1 rfl) ?_
    refine lv_iconst (v := 0) hx hb dX4_ownerOf_11 (by decide) ?_
    refine lv_bipush (v := 9) hx hb dX4_ownerOf_12 (by decide) ?_
    refine gSi (As := [.int kd, .int (0 : Int32), .int (9 : Int32)]) (rest := []) ⟨hx, hb, hml, hown, hts⟩ (c_X4_within l G A kd (0 : Int32) (9 : Int32)) (va_cwS 3 hts gX4_ownerOf_X4_within rfl rfl rfl (by decide +kernel) ⟨Nat.le_of_ble_eq_true rfl, Nat.le_of_ble_eq_true rfl⟩) hE hS rfl hl.1 rfl (Nat.le_of_ble_eq_true rfl) dX4_ownerOf_14 ⟨Nat.zero_le _, Nat.zero_le _⟩ (fun q14 e14 => ?_)
    refine lv_if_ne (tgt := 22) hx hb dX4_ownerOf_17 (by decide) (fun c17 => ?_) (fun c17 => ?_)
    · refine va_gets hx hb hE.2.2.1.1 hS hown k0 (fun _ h9 => h9) dX4_ownerOf_22 ?_
      refine lv_bipush (v := 10) hx hb dX4_ownerOf_25 (by decide) ?_
      refine lv_iload_n hx hb dX4_ownerOf_27 rfl (lv_at hl 0 rfl) ?_
      refine lv_imul hx hb dX4_ownerOf_28 ?_
      refine lv_iload_n hx hb dX4_ownerOf_29 rfl (lv_at hl 1 rfl) ?_
      refine lv_iadd hx hb dX4_ownerOf_30 ?_
      refine va_ti (v := .int (ownF ((((10 : Int32) * mb) + kd) : Int32).toNatClampNeg)) hx hb hE.2.2.1.2 hS (ownIn (by rw [← e4]; exact c7) (by rw [← e14]; exact c17)) rfl dX4_ownerOf_31 ?_
      exact gRsi hx hb hr hlk (by rw [← hfv, f_X4_ownerOf, ← e4, f_X4_ownerOf_k4, if_neg c7, ← e14, f_X4_ownerOf_k14, if_neg c17]) dX4_ownerOf_32
    · refine lv_iconst (v := -1) hx hb dX4_ownerOf_20 (by decide) ?_
      exact gRsi hx hb hr hlk (by rw [← hfv, f_X4_ownerOf, ← e4, f_X4_ownerOf_k4, if_neg c7, ← e14, f_X4_ownerOf_k14, if_pos c17]) dX4_ownerOf_21
set_option maxHeartbeats 4000000 in
set_option maxRecDepth 100000 in
theorem c_X4_ownerOf (l : Launch) (G : gC) (A : Nat → Prop) (mb : Int32) (kd : Int32) : CS l yX4_ownerOf wsX4_ownerOf ({ frames := 1, cells := 0, slots := 0, locals := 22 } : Room) G A [.int mb, .int kd] (f_X4_ownerOf mb kd) := by
  refine Met.ofW (cc := cX4_ownerOf) (maxL := 2) (ret := (some .int)) (by decide) rfl ?_
  intro p e s m args below meth c s₁ B hml hv
  obtain ⟨rfl, hE⟩ := hv
  have hl := lv_entry ([.int mb, .int kd]) (n := 2) (Nat.le_of_ble_eq_true rfl)
  rw [lg_entry_eq]
  generalize (lg_sl ([.int mb, .int kd]) ++ List.replicate (2 - (lg_sl ([.int mb, .int kd])).length) Slot.unset).toArray = ls at hl ⊢
  exact c_X4_ownerOf_0 l G A ⟨⟨B.exec, B.bytes, hml, findClass_of_methodNamed B.named, atoms_spec (ws := wsX4_ownerOf) B.pre⟩, B.returns, B.notSynchronized⟩ hE mb kd va_S.rf hl rfl
end
section
/-! ===== the bodies' world: Bodies, terms, Trace, entries, one Vehicle ===== -/
abbrev BS : Type := (Nat → Int32) × Int32 × Int32 × (Nat → Int32) × Int32 × Int32 × Int32 × Int32 × Int32 × Int32
abbrev b_T (u : BS) : Nat → Int32 := u.1
abbrev b_fl (u : BS) : Int32 := u.2.1
abbrev b_z (u : BS) : Int32 := u.2.2.1
abbrev b_te (u : BS) : Nat → Int32 := u.2.2.2.1
abbrev b_kd (u : BS) : Int32 := u.2.2.2.2.1
abbrev b_sz (u : BS) : Int32 := u.2.2.2.2.2.1
abbrev b_ld (u : BS) : Int32 := u.2.2.2.2.2.2.1
abbrev b_ch (u : BS) : Int32 := u.2.2.2.2.2.2.2.1
abbrev b_dk (u : BS) : Int32 := u.2.2.2.2.2.2.2.2.1
abbrev b_mt (u : BS) : Int32 := u.2.2.2.2.2.2.2.2.2
def b_sFl (u : BS) (x : Int32) : BS := (u.1, x, u.2.2)
def b_sZ (u : BS) (x : Int32) : BS := (u.1, u.2.1, x, u.2.2.2)
def b_sE (u : BS) (f : Nat → Int32) : BS := (u.1, u.2.1, u.2.2.1, f, u.2.2.2.2)
def b_sCh (u : BS) (x : Int32) : BS := (u.1, u.2.1, u.2.2.1, u.2.2.2.1, u.2.2.2.2.1, u.2.2.2.2.2.1, u.2.2.2.2.2.2.1, x, u.2.2.2.2.2.2.2.2)
abbrev b_W (cI : ClassId) (hB hT hW hE hV : Nat) (u : BS) : va_W := [(hB, .inr (0, [.ref hT, .ref hW, .int (b_fl u)])), (hT, .inl (cI, 8, .inl (b_T u))), (hW, .inr (2, [.ref hE, .int (b_z u)])), (hE, .inl (cI, 400, .inl (b_te u))), (hV, .inr (3, [.int (b_kd u), .int (b_sz u), .int (b_ld u), .int (b_ch u), .int (b_dk u), .int (b_mt u)]))]
abbrev b_ok (u : BS) : Prop := 0 ≤ b_z u ∧ b_z u ≤ 400
theorem okInc {z : Int32} (h : 0 ≤ z ∧ z ≤ 400) (c : ¬ 400 ≤ z) : 0 ≤ z + 1 ∧ z + 1 ≤ 400 := by
  obtain ⟨j, hj, rfl⟩ := nI_of (x := z) (by rw [Int32.not_lt]; exact h.1)
  have h2 : ¬ nI 400 ≤ nI j := c
  rw [nI_leI (by omega) hj] at h2
  rw [nI_1]
  exact ⟨nI_pos' (by omega), nI_le (a := j + 1) (b := 400) (by omega) (by omega)⟩
theorem okLt {z : Int32} (c : ¬ 400 ≤ z) : z < Int32.ofNat 400 := Int32.not_le.mp c

-- FerryDecks$Trace.write
def f_X2_write (x : Int32) (u : BS) : BS :=
  (if (400 : Int32) ≤ (b_z u) then u else b_sZ (b_sE u (upd (b_te u) ((b_z u) : Int32).toNatClampNeg x)) ((b_z (b_sE u (upd (b_te u) ((b_z u) : Int32).toNatClampNeg x))) + (1 : Int32)))
set_option maxHeartbeats 4000000 in
set_option maxRecDepth 100000 in
theorem c_X2_write_0 {p : Program} {e : Env} {s : State} {m : MethodId} {args : Array Value} {below : List Frame} {meth : Method} {c : Code} (l : Launch) (G : gC) (A : Nat → Prop) (hB hT hW hEn hV : Nat) (C0 : gX p s m args meth c cX2_write 2 wsX2_write RX2 none) (hE : gE G A s) (x : Int32) (u : BS) {H : Heap} {locs : List Loc} (hP : va_P (gD G) vwCl ((b_W (gI G) hB hT hW hEn hV) u) H) (hD : va_D A ((b_W (gI G) hB hT hW hEn hV) u)) (hok : b_ok u) (hS : va_S A s.heap H locs) {ls : Array Slot} (hl : lv_has ls 2 [(0, .ref hW), (1, .int x)]) {fv : BS} (hfv : f_X2_write x u = fv) : W p l e ({ frames := 0, cells := 0, slots := 0, locals := 0 } : Room) s m args below meth c H locs 0 0 (MQ below (gQv G A (b_W (gI G) hB hT hW hEn hV) b_ok fv) args s 0 0 A) (F0 m 0 ls []) := by
  obtain ⟨⟨hx, hb, hml, hown, hts⟩, hr, hlk⟩ := id C0
  have hok0 := hok
  have k0 := hts (.fieldLink RX2 15 "FerryDecks$Trace" "size" "I") (by decide +kernel)
  have k1 := hts (.fieldLink RX2 9 "FerryDecks$Trace" "entries" "[I") (by decide +kernel)
  have iX2 : ∀ w ∈ wsX20, w ∈ wsX2_write := by decide +kernel
  refine lv_aload_n hx hb dX2_write_0 rfl (lv_at hl 0 rfl) ?_
  refine va_get (D := gD G) (ci := 2) (v := .int (b_z u)) (C := RX2) (T := TX2) (N := 2) hx hb hts iX2 hown hE.1 hP 2 rfl rfl 1 (by decide) k0 (fun _ h9 => h9) rfl dX2_write_1 ?_
  refine lv_sipush (v := 400) hx hb dX2_write_4 (by decide) ?_
  refine lv_icmp_ge (tgt := 30) hx hb dX2_write_7 (by decide) (fun c7 => ?_) (fun c7 => ?_)
  · exact gRv hx hb hr hlk hP hD hok hS (by rw [← hfv, f_X2_write, if_pos c7]) dX2_write_30
  · refine lv_aload_n hx hb dX2_write_10 rfl (lv_at hl 0 rfl) ?_
    refine va_get (D := gD G) (ci := 2) (v := .ref hEn) (C := RX2) (T := TX2) (N := 2) hx hb hts iX2 hown hE.1 hP 2 rfl rfl 0 (by decide) k1 (fun _ h9 => h9) rfl dX2_write_11 ?_
    refine lv_aload_n hx hb dX2_write_14 rfl (lv_at hl 0 rfl) ?_
    refine va_get (D := gD G) (ci := 2) (v := .int (b_z u)) (C := RX2) (T := TX2) (N := 2) hx hb hts iX2 hown hE.1 hP 2 rfl rfl 1 (by decide) k0 (fun _ h9 => h9) rfl dX2_write_15 ?_
    refine lv_iload_n hx hb dX2_write_18 rfl (lv_at hl 1 rfl) ?_
    refine va_iast hx hb hE.1 hP hD hS 3 0 rfl rfl (gIn (by decide) hok.1 (okLt c7)) dX2_write_19 (fun H locs hP hD hS => ?_)
    have hP : va_P (gD G) vwCl ((b_W (gI G) hB hT hW hEn hV) (b_sE u (upd (b_te u) ((b_z u) : Int32).toNatClampNeg x))) H := hP
    have hD : va_D A ((b_W (gI G) hB hT hW hEn hV) (b_sE u (upd (b_te u) ((b_z u) : Int32).toNatClampNeg x))) := hD
    have hok : b_ok (b_sE u (upd (b_te u) ((b_z u) : Int32).toNatClampNeg x)) := hok
    refine lv_aload_n hx hb dX2_write_20 rfl (lv_at hl 0 rfl) ?_
    refine lv_dup hx hb dX2_write_21 rfl ?_
    refine va_get (D := gD G) (ci := 2) (v := .int (b_z (b_sE u (upd (b_te u) ((b_z u) : Int32).toNatClampNeg x)))) (C := RX2) (T := TX2) (N := 2) hx hb hts iX2 hown hE.1 hP 2 rfl rfl 1 (by decide) k0 (fun _ h9 => h9) rfl dX2_write_22 ?_
    refine lv_iconst (v := 1) hx hb dX2_write_25 (by decide) ?_
    refine lv_iadd hx hb dX2_write_26 ?_
    refine va_put (D := gD G) (ci := 2) (v := .int ((b_z (b_sE u (upd (b_te u) ((b_z u) : Int32).toNatClampNeg x))) + (1 : Int32))) (ty := .int) (C := RX2) (T := TX2) (N := 2) hx hb hts iX2 tyX2 tyX2_ok nmX2 hown hE.1 hP hD hS 2 rfl rfl 1 (by decide) k0 (fun _ h9 => h9) rfl (by decide +kernel) rfl rfl (Nat.le_of_ble_eq_true rfl) dX2_write_27 (fun H locs hP hD hS => ?_)
    have hP : va_P (gD G) vwCl ((b_W (gI G) hB hT hW hEn hV) (b_sZ (b_sE u (upd (b_te u) ((b_z u) : Int32).toNatClampNeg x)) ((b_z (b_sE u (upd (b_te u) ((b_z u) : Int32).toNatClampNeg x))) + (1 : Int32)))) H := hP
    have hD : va_D A ((b_W (gI G) hB hT hW hEn hV) (b_sZ (b_sE u (upd (b_te u) ((b_z u) : Int32).toNatClampNeg x)) ((b_z (b_sE u (upd (b_te u) ((b_z u) : Int32).toNatClampNeg x))) + (1 : Int32)))) := hD
    have hok : b_ok (b_sZ (b_sE u (upd (b_te u) ((b_z u) : Int32).toNatClampNeg x)) ((b_z (b_sE u (upd (b_te u) ((b_z u) : Int32).toNatClampNeg x))) + (1 : Int32))) := okInc hok c7
    exact gRv hx hb hr hlk hP hD hok hS (by rw [← hfv, f_X2_write, if_neg c7]) dX2_write_30
set_option maxHeartbeats 4000000 in
set_option maxRecDepth 100000 in
theorem c_X2_write (l : Launch) (G : gC) (A : Nat → Prop) (hB hT hW hEn hV : Nat) (x : Int32) (u : BS) (hok : b_ok u) : CV l yX2_write wsX2_write ({ frames := 0, cells := 0, slots := 0, locals := 0 } : Room) G A (b_W (gI G) hB hT hW hEn hV) b_ok [.ref hW, .int x] u (f_X2_write x u) := by
  refine Met.ofW (cc := cX2_write) (maxL := 2) (ret := none) (by decide) rfl ?_
  intro p e s m args below meth c s₁ B hml hv
  obtain ⟨rfl, hE, hP, hD⟩ := hv
  have hl := lv_entry ([.ref hW, .int x]) (n := 2) (Nat.le_of_ble_eq_true rfl)
  rw [lg_entry_eq]
  generalize (lg_sl ([.ref hW, .int x]) ++ List.replicate (2 - (lg_sl ([.ref hW, .int x])).length) Slot.unset).toArray = ls at hl ⊢
  exact c_X2_write_0 l G A hB hT hW hEn hV ⟨⟨B.exec, B.bytes, hml, findClass_of_methodNamed B.named, atoms_spec (ws := wsX2_write) B.pre⟩, B.returns, B.notSynchronized⟩ hE x u hP hD hok va_S.rf hl rfl

-- FerryDecks$Bodies.failed
def f_X0_failed (u : BS) : Int32 × BS :=
  (if (b_fl u) = 0 then ((0 : Int32), u) else ((1 : Int32), u))
set_option maxHeartbeats 4000000 in
set_option maxRecDepth 100000 in
theorem c_X0_failed_0 {p : Program} {e : Env} {s : State} {m : MethodId} {args : Array Value} {below : List Frame} {meth : Method} {c : Code} (l : Launch) (G : gC) (A : Nat → Prop) (hB hT hW hEn hV : Nat) (C0 : gX p s m args meth c cX0_failed 1 wsX0_failed RX0 (some .boolean)) (hE : gE G A s) (u : BS) {H : Heap} {locs : List Loc} (hP : va_P (gD G) vwCl ((b_W (gI G) hB hT hW hEn hV) u) H) (hD : va_D A ((b_W (gI G) hB hT hW hEn hV) u)) (hok : b_ok u) (hS : va_S A s.heap H locs) {ls : Array Slot} (hl : lv_has ls 1 [(0, .ref hB)]) {fv : Int32 × BS} (hfv : f_X0_failed u = fv) : W p l e ({ frames := 0, cells := 0, slots := 0, locals := 0 } : Room) s m args below meth c H locs 0 0 (MQ below (gQi G A (b_W (gI G) hB hT hW hEn hV) b_ok fv) args s 0 0 A) (F0 m 0 ls []) := by
  obtain ⟨⟨hx, hb, hml, hown, hts⟩, hr, hlk⟩ := id C0
  have hok0 := hok
  have k0 := hts (.fieldLink RX0 26 "FerryDecks$Bodies" "failure" "I") (by decide +kernel)
  have iX0 : ∀ w ∈ wsX00, w ∈ wsX0_failed := by decide +kernel
  refine lv_aload_n hx hb dX0_failed_0 rfl (lv_at hl 0 rfl) ?_
  refine va_get (D := gD G) (ci := 0) (v := .int (b_fl u)) (C := RX0) (T := TX0) (N := 3) hx hb hts iX0 hown hE.1 hP 0 rfl rfl 2 (by decide) k0 (fun _ h9 => h9) rfl dX0_failed_1 ?_
  refine lv_if_eq (tgt := 11) hx hb dX0_failed_4 (by decide) (fun c4 => ?_) (fun c4 => ?_)
  · refine lv_iconst (v := 0) hx hb dX0_failed_11 (by decide) ?_
    exact gRz (u := u) hx hb hr hlk (by decide) hP hD hok hS (by rw [← hfv, f_X0_failed, if_pos c4]) dX0_failed_12
  · refine lv_iconst (v := 1) hx hb dX0_failed_7 (by decide) ?_
    refine lv_goto (tgt := 12) hx hb dX0_failed_8 (by decide) ?_
    exact gRz (u := u) hx hb hr hlk (by decide) hP hD hok hS (by rw [← hfv, f_X0_failed, if_neg c4]) dX0_failed_12
set_option maxHeartbeats 4000000 in
set_option maxRecDepth 100000 in
theorem c_X0_failed (l : Launch) (G : gC) (A : Nat → Prop) (hB hT hW hEn hV : Nat) (u : BS) (hok : b_ok u) : CI l yX0_failed wsX0_failed ({ frames := 0, cells := 0, slots := 0, locals := 0 } : Room) G A (b_W (gI G) hB hT hW hEn hV) b_ok [.ref hB] u (f_X0_failed u) := by
  refine Met.ofW (cc := cX0_failed) (maxL := 1) (ret := (some .boolean)) (by decide) rfl ?_
  intro p e s m args below meth c s₁ B hml hv
  obtain ⟨rfl, hE, hP, hD⟩ := hv
  have hl := lv_entry ([.ref hB]) (n := 1) (Nat.le_of_ble_eq_true rfl)
  rw [lg_entry_eq]
  generalize (lg_sl ([.ref hB]) ++ List.replicate (1 - (lg_sl ([.ref hB])).length) Slot.unset).toArray = ls at hl ⊢
  exact c_X0_failed_0 l G A hB hT hW hEn hV ⟨⟨B.exec, B.bytes, hml, findClass_of_methodNamed B.named, atoms_spec (ws := wsX0_failed) B.pre⟩, B.returns, B.notSynchronized⟩ hE u hP hD hok va_S.rf hl rfl

-- FerryDecks$Bodies.fail
def f_X0_fail (x : Int32) (u : BS) : Int32 × BS :=
  ((0 : Int32), b_sFl u x)
set_option maxHeartbeats 4000000 in
set_option maxRecDepth 100000 in
theorem c_X0_fail_0 {p : Program} {e : Env} {s : State} {m : MethodId} {args : Array Value} {below : List Frame} {meth : Method} {c : Code} (l : Launch) (G : gC) (A : Nat → Prop) (hB hT hW hEn hV : Nat) (C0 : gX p s m args meth c cX0_fail 2 wsX0_fail RX0 (some .int)) (hE : gE G A s) (x : Int32) (u : BS) {H : Heap} {locs : List Loc} (hP : va_P (gD G) vwCl ((b_W (gI G) hB hT hW hEn hV) u) H) (hD : va_D A ((b_W (gI G) hB hT hW hEn hV) u)) (hok : b_ok u) (hS : va_S A s.heap H locs) {ls : Array Slot} (hl : lv_has ls 2 [(0, .ref hB), (1, .int x)]) {fv : Int32 × BS} (hfv : f_X0_fail x u = fv) : W p l e ({ frames := 0, cells := 0, slots := 0, locals := 0 } : Room) s m args below meth c H locs 0 0 (MQ below (gQi G A (b_W (gI G) hB hT hW hEn hV) b_ok fv) args s 0 0 A) (F0 m 0 ls []) := by
  obtain ⟨⟨hx, hb, hml, hown, hts⟩, hr, hlk⟩ := id C0
  have hok0 := hok
  have k0 := hts (.fieldLink RX0 26 "FerryDecks$Bodies" "failure" "I") (by decide +kernel)
  have iX0 : ∀ w ∈ wsX00, w ∈ wsX0_fail := by decide +kernel
  refine lv_aload_n hx hb dX0_fail_0 rfl (lv_at hl 0 rfl) ?_
  refine lv_iload_n hx hb dX0_fail_1 rfl (lv_at hl 1 rfl) ?_
  refine va_put (D := gD G) (ci := 0) (v := .int x) (ty := .int) (C := RX0) (T := TX0) (N := 3) hx hb hts iX0 tyX0 tyX0_ok nmX0 hown hE.1 hP hD hS 0 rfl rfl 2 (by decide) k0 (fun _ h9 => h9) rfl (by decide +kernel) rfl rfl (Nat.le_of_ble_eq_true rfl) dX0_fail_2 (fun H locs hP hD hS => ?_)
  have hP : va_P (gD G) vwCl ((b_W (gI G) hB hT hW hEn hV) (b_sFl u x)) H := hP
  have hD : va_D A ((b_W (gI G) hB hT hW hEn hV) (b_sFl u x)) := hD
  have hok : b_ok (b_sFl u x) := hok
  refine lv_iconst (v := 0) hx hb dX0_fail_5 (by decide) ?_
  exact gRi (u := b_sFl u x) hx hb hr hlk hP hD hok hS (by rw [← hfv, f_X0_fail]) dX0_fail_6
set_option maxHeartbeats 4000000 in
set_option maxRecDepth 100000 in
theorem c_X0_fail (l : Launch) (G : gC) (A : Nat → Prop) (hB hT hW hEn hV : Nat) (x : Int32) (u : BS) (hok : b_ok u) : CI l yX0_fail wsX0_fail ({ frames := 0, cells := 0, slots := 0, locals := 0 } : Room) G A (b_W (gI G) hB hT hW hEn hV) b_ok [.ref hB, .int x] u (f_X0_fail x u) := by
  refine Met.ofW (cc := cX0_fail) (maxL := 2) (ret := (some .int)) (by decide) rfl ?_
  intro p e s m args below meth c s₁ B hml hv
  obtain ⟨rfl, hE, hP, hD⟩ := hv
  have hl := lv_entry ([.ref hB, .int x]) (n := 2) (Nat.le_of_ble_eq_true rfl)
  rw [lg_entry_eq]
  generalize (lg_sl ([.ref hB, .int x]) ++ List.replicate (2 - (lg_sl ([.ref hB, .int x])).length) Slot.unset).toArray = ls at hl ⊢
  exact c_X0_fail_0 l G A hB hT hW hEn hV ⟨⟨B.exec, B.bytes, hml, findClass_of_methodNamed B.named, atoms_spec (ws := wsX0_fail) B.pre⟩, B.returns, B.notSynchronized⟩ hE x u hP hD hok va_S.rf hl rfl

-- FerryDecks$Bodies.takes
def f_X0_takes (x : Int32) (u : BS) : Int32 × BS :=
  (if (b_fl u) = x then ((1 : Int32), b_sFl u (0 : Int32)) else ((0 : Int32), u))
set_option maxHeartbeats 4000000 in
set_option maxRecDepth 100000 in
theorem c_X0_takes_0 {p : Program} {e : Env} {s : State} {m : MethodId} {args : Array Value} {below : List Frame} {meth : Method} {c : Code} (l : Launch) (G : gC) (A : Nat → Prop) (hB hT hW hEn hV : Nat) (C0 : gX p s m args meth c cX0_takes 2 wsX0_takes RX0 (some .boolean)) (hE : gE G A s) (x : Int32) (u : BS) {H : Heap} {locs : List Loc} (hP : va_P (gD G) vwCl ((b_W (gI G) hB hT hW hEn hV) u) H) (hD : va_D A ((b_W (gI G) hB hT hW hEn hV) u)) (hok : b_ok u) (hS : va_S A s.heap H locs) {ls : Array Slot} (hl : lv_has ls 2 [(0, .ref hB), (1, .int x)]) {fv : Int32 × BS} (hfv : f_X0_takes x u = fv) : W p l e ({ frames := 0, cells := 0, slots := 0, locals := 0 } : Room) s m args below meth c H locs 0 0 (MQ below (gQi G A (b_W (gI G) hB hT hW hEn hV) b_ok fv) args s 0 0 A) (F0 m 0 ls []) := by
  obtain ⟨⟨hx, hb, hml, hown, hts⟩, hr, hlk⟩ := id C0
  have hok0 := hok
  have k0 := hts (.fieldLink RX0 26 "FerryDecks$Bodies" "failure" "I") (by decide +kernel)
  have iX0 : ∀ w ∈ wsX00, w ∈ wsX0_takes := by decide +kernel
  refine lv_aload_n hx hb dX0_takes_0 rfl (lv_at hl 0 rfl) ?_
  refine va_get (D := gD G) (ci := 0) (v := .int (b_fl u)) (C := RX0) (T := TX0) (N := 3) hx hb hts iX0 hown hE.1 hP 0 rfl rfl 2 (by decide) k0 (fun _ h9 => h9) rfl dX0_takes_1 ?_
  refine lv_iload_n hx hb dX0_takes_4 rfl (lv_at hl 1 rfl) ?_
  refine lv_icmp_eq (tgt := 10) hx hb dX0_takes_5 (by decide) (fun c5 => ?_) (fun c5 => ?_)
  · refine lv_aload_n hx hb dX0_takes_10 rfl (lv_at hl 0 rfl) ?_
    refine lv_iconst (v := 0) hx hb dX0_takes_11 (by decide) ?_
    refine va_put (D := gD G) (ci := 0) (v := .int (0 : Int32)) (ty := .int) (C := RX0) (T := TX0) (N := 3) hx hb hts iX0 tyX0 tyX0_ok nmX0 hown hE.1 hP hD hS 0 rfl rfl 2 (by decide) k0 (fun _ h9 => h9) rfl (by decide +kernel) rfl rfl (Nat.le_of_ble_eq_true rfl) dX0_takes_12 (fun H locs hP hD hS => ?_)
    have hP : va_P (gD G) vwCl ((b_W (gI G) hB hT hW hEn hV) (b_sFl u (0 : Int32))) H := hP
    have hD : va_D A ((b_W (gI G) hB hT hW hEn hV) (b_sFl u (0 : Int32))) := hD
    have hok : b_ok (b_sFl u (0 : Int32)) := hok
    refine lv_iconst (v := 1) hx hb dX0_takes_15 (by decide) ?_
    exact gRz (u := b_sFl u (0 : Int32)) hx hb hr hlk (by decide) hP hD hok hS (by rw [← hfv, f_X0_takes, if_pos c5]) dX0_takes_16
  · refine lv_iconst (v := 0) hx hb dX0_takes_8 (by decide) ?_
    exact gRz (u := u) hx hb hr hlk (by decide) hP hD hok hS (by rw [← hfv, f_X0_takes, if_neg c5]) dX0_takes_9
set_option maxHeartbeats 4000000 in
set_option maxRecDepth 100000 in
theorem c_X0_takes (l : Launch) (G : gC) (A : Nat → Prop) (hB hT hW hEn hV : Nat) (x : Int32) (u : BS) (hok : b_ok u) : CI l yX0_takes wsX0_takes ({ frames := 0, cells := 0, slots := 0, locals := 0 } : Room) G A (b_W (gI G) hB hT hW hEn hV) b_ok [.ref hB, .int x] u (f_X0_takes x u) := by
  refine Met.ofW (cc := cX0_takes) (maxL := 2) (ret := (some .boolean)) (by decide) rfl ?_
  intro p e s m args below meth c s₁ B hml hv
  obtain ⟨rfl, hE, hP, hD⟩ := hv
  have hl := lv_entry ([.ref hB, .int x]) (n := 2) (Nat.le_of_ble_eq_true rfl)
  rw [lg_entry_eq]
  generalize (lg_sl ([.ref hB, .int x]) ++ List.replicate (2 - (lg_sl ([.ref hB, .int x])).length) Slot.unset).toArray = ls at hl ⊢
  exact c_X0_takes_0 l G A hB hT hW hEn hV ⟨⟨B.exec, B.bytes, hml, findClass_of_methodNamed B.named, atoms_spec (ws := wsX0_takes) B.pre⟩, B.returns, B.notSynchronized⟩ hE x u hP hD hok va_S.rf hl rfl
end
section
-- FerryDecks$Bodies.askAbove
def f_X0_askAbove_k24 (K : Int32 → Int32 → Int32 → BS → Int32 × BS) (q24 : Int32 × BS) : Int32 × BS :=
  (q24.1, q24.2)
def f_X0_askAbove_k4 (K : Int32 → Int32 → Int32 → BS → Int32 × BS) (kd : Int32) (mb : Int32) (n : Int32) (u : BS) (q4 : Int32) : Int32 × BS :=
  (if q4 = 0 then ((0 : Int32), u) else (f_X0_askAbove_k24 K (K (abvF (kd : Int32).toNatClampNeg) mb n u)))
def f_X0_askAbove (K : Int32 → Int32 → Int32 → BS → Int32 × BS) (kd : Int32) (mb : Int32) (n : Int32) (u : BS) : Int32 × BS :=
  (f_X0_askAbove_k4 K kd mb n u (f_X4_within kd (0 : Int32) (9 : Int32)))
set_option maxHeartbeats 4000000 in
set_option maxRecDepth 100000 in
theorem c_X0_askAbove_0 {p : Program} {e : Env} {s : State} {m : MethodId} {args : Array Value} {below : List Frame} {meth : Method} {c : Code} (l : Launch) (G : gC) (A : Nat → Prop) (hB hT hW hEn hV : Nat) (k : Nat) (dp : Int32) (K : Int32 → Int32 → Int32 → BS → Int32 × BS) (hK : ∀ (kd mb n : Int32) (u : BS), b_ok u → CI l yX0_start wsX0_start ({ frames := 4 * k + 4, cells := 0, slots := 0, locals := 120 * k + 60 } : Room) G A (b_W (gI G) hB hT hW hEn hV) b_ok [.ref hB, .ref hV, .int kd, .int mb, .int n, .int (dp + 1)] u (K kd mb n u)) (C0 : gX p s m args meth c cX0_askAbove 6 wsX0_askAbove RX0 (some .int)) (hE : gE G A s) (kd : Int32) (mb : Int32) (n : Int32) (u : BS) {H : Heap} {locs : List Loc} (hP : va_P (gD G) vwCl ((b_W (gI G) hB hT hW hEn hV) u) H) (hD : va_D A ((b_W (gI G) hB hT hW hEn hV) u)) (hok : b_ok u) (hS : va_S A s.heap H locs) {ls : Array Slot} (hl : lv_has ls 6 [(0, .ref hB), (1, .ref hV), (2, .int kd), (3, .int mb), (4, .int n), (5, .int dp)]) {fv : Int32 × BS} (hfv : f_X0_askAbove K kd mb n u = fv) : W p l e ({ frames := 4 * k + 5, cells := 0, slots := 0, locals := 120 * k + 86 } : Room) s m args below meth c H locs 0 0 (MQ below (gQi G A (b_W (gI G) hB hT hW hEn hV) b_ok fv) args s 0 0 A) (F0 m 0 ls []) := by
  obtain ⟨⟨hx, hb, hml, hown, hts⟩, hr, hlk⟩ := id C0
  have hok0 := hok
  have k0 := hts (.initialized RX4) (by decide +kernel)
  have k1 := hts (.static yX4_within) (by decide +kernel)
  refine lv_iload_n hx hb dX0_askAbove_0 rfl (lv_at hl 2 rfl) ?_
  refine lv_iconst (v := 0) hx hb dX0_askAbove_1 (by decide) ?_
  refine lv_bipush (v := 9) hx hb dX0_askAbove_2 (by decide) ?_
  refine gNi (As := [.int kd, .int (0 : Int32), .int (9 : Int32)]) (rest := []) ⟨hx, hb, hml, hown, hts⟩ (c_X4_within l G A kd (0 : Int32) (9 : Int32)) ⟨va_cnB 3 hts gX0_askAbove_X4_within_n73 rfl rfl rfl hE.2.1.2.2.1 k0 (by decide +kernel) ⟨by show 0 + 1 ≤ 4 * k + 5; omega, by show 8 + (3 + 11) + 0 ≤ 120 * k + 86; omega⟩, k1, trivial⟩ hE hS rfl hl.1 rfl (Nat.le_of_ble_eq_true rfl) dX0_askAbove_4 ⟨Nat.zero_le _, Nat.zero_le _⟩ (fun q4 e4 => ?_)
  refine lv_if_eq (tgt := 30) hx hb dX0_askAbove_7 (by decide) (fun c7 => ?_) (fun c7 => ?_)
  · refine lv_iconst (v := 0) hx hb dX0_askAbove_30 (by decide) ?_
    exact gRi (u := u) hx hb hr hlk hP hD hok hS (by rw [← hfv, f_X0_askAbove, ← e4, f_X0_askAbove_k4, if_pos c7]) dX0_askAbove_31
  · refine lv_aload_n hx hb dX0_askAbove_10 rfl (lv_at hl 0 rfl) ?_
    refine lv_aload_n hx hb dX0_askAbove_11 rfl (lv_at hl 1 rfl) ?_
    refine va_getsN hx hb hE.2.2.2.1 hS hown (va_Nw.use rfl hE.2.1.1) (fun _ h9 => h9) dX0_askAbove_12 ?_
    refine lv_iload_n hx hb dX0_askAbove_15 rfl (lv_at hl 2 rfl) ?_
    refine va_ti (v := .int (abvF (kd : Int32).toNatClampNeg)) hx hb hE.2.2.2.2 hS (abvIn (by rw [← e4]; exact c7)) rfl dX0_askAbove_16 ?_
    refine lv_iload_n hx hb dX0_askAbove_17 rfl (lv_at hl 3 rfl) ?_
    refine lv_iload hx hb dX0_askAbove_18 (lv_at hl 4 rfl) ?_
    refine lv_iload hx hb dX0_askAbove_20 (lv_at hl 5 rfl) ?_
    refine lv_iconst (v := 1) hx hb dX0_askAbove_22 (by decide) ?_
    refine lv_iadd hx hb dX0_askAbove_23 ?_
    refine gVi (u := u) (Wd := (b_W (gI G) hB hT hW hEn hV)) (ok := b_ok) (As := [.ref hV, .int (abvF (kd : Int32).toNatClampNeg), .int mb, .int n, .int (dp + (1 : Int32))]) (rest := []) ⟨hx, hb, hml, hown, hts⟩ (hK (abvF (kd : Int32).toNatClampNeg) mb n u hok) (cwV 5 hts gX0_askAbove_X0_start rfl rfl rfl (by decide +kernel) ⟨by show 4 * k + 4 + 1 ≤ 4 * k + 5; omega, by show 8 + (7 + 11) + (120 * k + 60) ≤ 120 * k + 86; omega⟩) hE hP hD hS (va_recv hE.1 hP (ci := 0) (q0 := 0) rfl rfl) rfl hl.1 rfl (Nat.le_of_ble_eq_true rfl) dX0_askAbove_24 ⟨Nat.zero_le _, Nat.zero_le _⟩ (fun q24 H locs e24 hP hD hok hS => ?_)
    refine lv_goto (tgt := 31) hx hb dX0_askAbove_27 (by decide) ?_
    exact gRi (u := q24.2) hx hb hr hlk hP hD hok hS (by rw [← hfv, f_X0_askAbove, ← e4, f_X0_askAbove_k4, if_neg c7, ← e24, f_X0_askAbove_k24]) dX0_askAbove_31
set_option maxHeartbeats 4000000 in
set_option maxRecDepth 100000 in
theorem c_X0_askAbove (l : Launch) (G : gC) (A : Nat → Prop) (hB hT hW hEn hV : Nat) (k : Nat) (dp : Int32) (K : Int32 → Int32 → Int32 → BS → Int32 × BS) (hK : ∀ (kd mb n : Int32) (u : BS), b_ok u → CI l yX0_start wsX0_start ({ frames := 4 * k + 4, cells := 0, slots := 0, locals := 120 * k + 60 } : Room) G A (b_W (gI G) hB hT hW hEn hV) b_ok [.ref hB, .ref hV, .int kd, .int mb, .int n, .int (dp + 1)] u (K kd mb n u)) (kd : Int32) (mb : Int32) (n : Int32) (u : BS) (hok : b_ok u) : CI l yX0_askAbove wsX0_askAbove ({ frames := 4 * k + 5, cells := 0, slots := 0, locals := 120 * k + 86 } : Room) G A (b_W (gI G) hB hT hW hEn hV) b_ok [.ref hB, .ref hV, .int kd, .int mb, .int n, .int dp] u (f_X0_askAbove K kd mb n u) := by
  refine Met.ofW (cc := cX0_askAbove) (maxL := 6) (ret := (some .int)) (by decide) rfl ?_
  intro p e s m args below meth c s₁ B hml hv
  obtain ⟨rfl, hE, hP, hD⟩ := hv
  have hl := lv_entry ([.ref hB, .ref hV, .int kd, .int mb, .int n, .int dp]) (n := 6) (Nat.le_of_ble_eq_true rfl)
  rw [lg_entry_eq]
  generalize (lg_sl ([.ref hB, .ref hV, .int kd, .int mb, .int n, .int dp]) ++ List.replicate (6 - (lg_sl ([.ref hB, .ref hV, .int kd, .int mb, .int n, .int dp])).length) Slot.unset).toArray = ls at hl ⊢
  exact c_X0_askAbove_0 l G A hB hT hW hEn hV k dp K hK ⟨⟨B.exec, B.bytes, hml, findClass_of_methodNamed B.named, atoms_spec (ws := wsX0_askAbove) B.pre⟩, B.returns, B.notSynchronized⟩ hE kd mb n u hP hD hok va_S.rf hl rfl

-- FerryDecks$Bodies.askVehicle
def f_X0_askVehicle_k12 (K : Int32 → Int32 → Int32 → BS → Int32 × BS) (q12 : Int32 × BS) : Int32 × BS :=
  (q12.1, q12.2)
def f_X0_askVehicle (K : Int32 → Int32 → Int32 → BS → Int32 × BS) (mb : Int32) (n : Int32) (u : BS) : Int32 × BS :=
  (f_X0_askVehicle_k12 K (K (b_kd u) mb n u))
set_option maxHeartbeats 4000000 in
set_option maxRecDepth 100000 in
theorem c_X0_askVehicle_0 {p : Program} {e : Env} {s : State} {m : MethodId} {args : Array Value} {below : List Frame} {meth : Method} {c : Code} (l : Launch) (G : gC) (A : Nat → Prop) (hB hT hW hEn hV : Nat) (k : Nat) (dp : Int32) (K : Int32 → Int32 → Int32 → BS → Int32 × BS) (hK : ∀ (kd mb n : Int32) (u : BS), b_ok u → CI l yX0_start wsX0_start ({ frames := 4 * k + 4, cells := 0, slots := 0, locals := 120 * k + 60 } : Room) G A (b_W (gI G) hB hT hW hEn hV) b_ok [.ref hB, .ref hV, .int kd, .int mb, .int n, .int (dp + 1)] u (K kd mb n u)) (C0 : gX p s m args meth c cX0_askVehicle 5 wsX0_askVehicle RX0 (some .int)) (hE : gE G A s) (mb : Int32) (n : Int32) (u : BS) {H : Heap} {locs : List Loc} (hP : va_P (gD G) vwCl ((b_W (gI G) hB hT hW hEn hV) u) H) (hD : va_D A ((b_W (gI G) hB hT hW hEn hV) u)) (hok : b_ok u) (hS : va_S A s.heap H locs) {ls : Array Slot} (hl : lv_has ls 5 [(0, .ref hB), (1, .ref hV), (2, .int mb), (3, .int n), (4, .int dp)]) {fv : Int32 × BS} (hfv : f_X0_askVehicle K mb n u = fv) : W p l e ({ frames := 4 * k + 5, cells := 0, slots := 0, locals := 120 * k + 86 } : Room) s m args below meth c H locs 0 0 (MQ below (gQi G A (b_W (gI G) hB hT hW hEn hV) b_ok fv) args s 0 0 A) (F0 m 0 ls []) := by
  obtain ⟨⟨hx, hb, hml, hown, hts⟩, hr, hlk⟩ := id C0
  have hok0 := hok
  have k0 := hts (.fieldLink RX0 29 "FerryDecks$Vehicle" "kind" "I") (by decide +kernel)
  have iX3 : ∀ w ∈ wsX30, w ∈ wsX0_askVehicle := by decide +kernel
  refine lv_aload_n hx hb dX0_askVehicle_0 rfl (lv_at hl 0 rfl) ?_
  refine lv_aload_n hx hb dX0_askVehicle_1 rfl (lv_at hl 1 rfl) ?_
  refine lv_aload_n hx hb dX0_askVehicle_2 rfl (lv_at hl 1 rfl) ?_
  refine va_get (D := gD G) (ci := 3) (v := .int (b_kd u)) (C := RX3) (T := TX3) (N := 6) hx hb hts iX3 hown hE.1 hP 4 rfl rfl 0 (by decide) k0 (fun _ h9 => h9) rfl dX0_askVehicle_3 ?_
  refine lv_iload_n hx hb dX0_askVehicle_6 rfl (lv_at hl 2 rfl) ?_
  refine lv_iload_n hx hb dX0_askVehicle_7 rfl (lv_at hl 3 rfl) ?_
  refine lv_iload hx hb dX0_askVehicle_8 (lv_at hl 4 rfl) ?_
  refine lv_iconst (v := 1) hx hb dX0_askVehicle_10 (by decide) ?_
  refine lv_iadd hx hb dX0_askVehicle_11 ?_
  refine gVi (u := u) (Wd := (b_W (gI G) hB hT hW hEn hV)) (ok := b_ok) (As := [.ref hV, .int (b_kd u), .int mb, .int n, .int (dp + (1 : Int32))]) (rest := []) ⟨hx, hb, hml, hown, hts⟩ (hK (b_kd u) mb n u hok) (cwV 5 hts gX0_askVehicle_X0_start rfl rfl rfl (by decide +kernel) ⟨by show 4 * k + 4 + 1 ≤ 4 * k + 5; omega, by show 8 + (7 + 11) + (120 * k + 60) ≤ 120 * k + 86; omega⟩) hE hP hD hS (va_recv hE.1 hP (ci := 0) (q0 := 0) rfl rfl) rfl hl.1 rfl (Nat.le_of_ble_eq_true rfl) dX0_askVehicle_12 ⟨Nat.zero_le _, Nat.zero_le _⟩ (fun q12 H locs e12 hP hD hok hS => ?_)
  exact gRi (u := q12.2) hx hb hr hlk hP hD hok hS (by rw [← hfv, f_X0_askVehicle, ← e12, f_X0_askVehicle_k12]) dX0_askVehicle_15
set_option maxHeartbeats 4000000 in
set_option maxRecDepth 100000 in
theorem c_X0_askVehicle (l : Launch) (G : gC) (A : Nat → Prop) (hB hT hW hEn hV : Nat) (k : Nat) (dp : Int32) (K : Int32 → Int32 → Int32 → BS → Int32 × BS) (hK : ∀ (kd mb n : Int32) (u : BS), b_ok u → CI l yX0_start wsX0_start ({ frames := 4 * k + 4, cells := 0, slots := 0, locals := 120 * k + 60 } : Room) G A (b_W (gI G) hB hT hW hEn hV) b_ok [.ref hB, .ref hV, .int kd, .int mb, .int n, .int (dp + 1)] u (K kd mb n u)) (mb : Int32) (n : Int32) (u : BS) (hok : b_ok u) : CI l yX0_askVehicle wsX0_askVehicle ({ frames := 4 * k + 5, cells := 0, slots := 0, locals := 120 * k + 86 } : Room) G A (b_W (gI G) hB hT hW hEn hV) b_ok [.ref hB, .ref hV, .int mb, .int n, .int dp] u (f_X0_askVehicle K mb n u) := by
  refine Met.ofW (cc := cX0_askVehicle) (maxL := 5) (ret := (some .int)) (by decide) rfl ?_
  intro p e s m args below meth c s₁ B hml hv
  obtain ⟨rfl, hE, hP, hD⟩ := hv
  have hl := lv_entry ([.ref hB, .ref hV, .int mb, .int n, .int dp]) (n := 5) (Nat.le_of_ble_eq_true rfl)
  rw [lg_entry_eq]
  generalize (lg_sl ([.ref hB, .ref hV, .int mb, .int n, .int dp]) ++ List.replicate (5 - (lg_sl ([.ref hB, .ref hV, .int mb, .int n, .int dp])).length) Slot.unset).toArray = ls at hl ⊢
  exact c_X0_askVehicle_0 l G A hB hT hW hEn hV k dp K hK ⟨⟨B.exec, B.bytes, hml, findClass_of_methodNamed B.named, atoms_spec (ws := wsX0_askVehicle) B.pre⟩, B.returns, B.notSynchronized⟩ hE mb n u hP hD hok va_S.rf hl rfl

-- FerryDecks$Bodies.lashMixed
def f_X0_lashMixed_k35 (K : Int32 → Int32 → Int32 → BS → Int32 × BS) (q35 : Int32 × BS) : Int32 × BS :=
  (q35.1, q35.2)
def f_X0_lashMixed_k14 (K : Int32 → Int32 → Int32 → BS → Int32 × BS) (n : Int32) (q7 : Int32 × BS) (q14 : Int32 × BS) : Int32 × BS :=
  (if q14.1 = 0 then (q7.1, q14.2) else (f_X0_lashMixed_k35 K (f_X0_askAbove K (9 : Int32) (3 : Int32) n (b_sCh q14.2 (0 : Int32)))))
def f_X0_lashMixed_k7 (K : Int32 → Int32 → Int32 → BS → Int32 × BS) (n : Int32) (q7 : Int32 × BS) : Int32 × BS :=
  (f_X0_lashMixed_k14 K n q7 (f_X0_takes (4 : Int32) q7.2))
def f_X0_lashMixed (K : Int32 → Int32 → Int32 → BS → Int32 × BS) (n : Int32) (u : BS) : Int32 × BS :=
  (f_X0_lashMixed_k7 K n (f_X0_askAbove K (9 : Int32) (3 : Int32) n u))
set_option maxHeartbeats 4000000 in
set_option maxRecDepth 100000 in
theorem c_X0_lashMixed_0 {p : Program} {e : Env} {s : State} {m : MethodId} {args : Array Value} {below : List Frame} {meth : Method} {c : Code} (l : Launch) (G : gC) (A : Nat → Prop) (hB hT hW hEn hV : Nat) (k : Nat) (dp : Int32) (K : Int32 → Int32 → Int32 → BS → Int32 × BS) (hK : ∀ (kd mb n : Int32) (u : BS), b_ok u → CI l yX0_start wsX0_start ({ frames := 4 * k + 4, cells := 0, slots := 0, locals := 120 * k + 60 } : Room) G A (b_W (gI G) hB hT hW hEn hV) b_ok [.ref hB, .ref hV, .int kd, .int mb, .int n, .int (dp + 1)] u (K kd mb n u)) (C0 : gX p s m args meth c cX0_lashMixed 5 wsX0_lashMixed RX0 (some .int)) (hE : gE G A s) (n : Int32) (u : BS) {H : Heap} {locs : List Loc} (hP : va_P (gD G) vwCl ((b_W (gI G) hB hT hW hEn hV) u) H) (hD : va_D A ((b_W (gI G) hB hT hW hEn hV) u)) (hok : b_ok u) (hS : va_S A s.heap H locs) {ls : Array Slot} (hl : lv_has ls 5 [(0, .ref hB), (1, .ref hV), (2, .int n), (3, .int dp)]) {fv : Int32 × BS} (hfv : f_X0_lashMixed K n u = fv) : W p l e ({ frames := 4 * k + 6, cells := 0, slots := 0, locals := 120 * k + 111 } : Room) s m args below meth c H locs 0 0 (MQ below (gQi G A (b_W (gI G) hB hT hW hEn hV) b_ok fv) args s 0 0 A) (F0 m 0 ls []) := by
  obtain ⟨⟨hx, hb, hml, hown, hts⟩, hr, hlk⟩ := id C0
  have hok0 := hok
  have k0 := hts (.fieldLink RX0 103 "FerryDecks$Vehicle" "chains" "I") (by decide +kernel)
  have iX3 : ∀ w ∈ wsX30, w ∈ wsX0_lashMixed := by decide +kernel
  refine lv_aload_n hx hb dX0_lashMixed_0 rfl (lv_at hl 0 rfl) ?_
  refine lv_aload_n hx hb dX0_lashMixed_1 rfl (lv_at hl 1 rfl) ?_
  refine lv_bipush (v := 9) hx hb dX0_lashMixed_2 (by decide) ?_
  refine lv_iconst (v := 3) hx hb dX0_lashMixed_4 (by decide) ?_
  refine lv_iload_n hx hb dX0_lashMixed_5 rfl (lv_at hl 2 rfl) ?_
  refine lv_iload_n hx hb dX0_lashMixed_6 rfl (lv_at hl 3 rfl) ?_
  refine gVi (u := u) (Wd := (b_W (gI G) hB hT hW hEn hV)) (ok := b_ok) (As := [.ref hV, .int (9 : Int32), .int (3 : Int32), .int n, .int dp]) (rest := []) ⟨hx, hb, hml, hown, hts⟩ (c_X0_askAbove l G A hB hT hW hEn hV k dp K hK (9 : Int32) (3 : Int32) n u hok) (cwV 5 hts gX0_lashMixed_X0_askAbove rfl rfl rfl (by decide +kernel) ⟨by show 4 * k + 5 + 1 ≤ 4 * k + 6; omega, by show 8 + (6 + 11) + (120 * k + 86) ≤ 120 * k + 111; omega⟩) hE hP hD hS (va_recv hE.1 hP (ci := 0) (q0 := 0) rfl rfl) rfl hl.1 rfl (Nat.le_of_ble_eq_true rfl) dX0_lashMixed_7 ⟨Nat.zero_le _, Nat.zero_le _⟩ (fun q7 H locs e7 hP hD hok hS => ?_)
  refine lv_istore (lv' := [(4, .int q7.1), (0, .ref hB), (1, .ref hV), (2, .int n), (3, .int dp)]) hx hb dX0_lashMixed_10 hl (by decide) rfl (fun ls hl => ?_)
  refine lv_aload_n hx hb dX0_lashMixed_12 rfl (lv_at hl 1 rfl) ?_
  refine lv_iconst (v := 4) hx hb dX0_lashMixed_13 (by decide) ?_
  refine gVi (u := q7.2) (Wd := (b_W (gI G) hB hT hW hEn hV)) (ok := b_ok) (As := [.int (4 : Int32)]) (rest := []) ⟨hx, hb, hml, hown, hts⟩ (c_X0_takes l G A hB hT hW hEn hV (4 : Int32) q7.2 hok) (cwV 1 hts gX0_lashMixed_X0_takes rfl rfl rfl (by decide +kernel) ⟨by show 0 + 1 ≤ 4 * k + 6; omega, by show 8 + (2 + 11) + 0 ≤ 120 * k + 111; omega⟩) hE hP hD hS (va_recv hE.1 hP (ci := 0) (q0 := 0) rfl rfl) rfl hl.1 rfl (Nat.le_of_ble_eq_true rfl) dX0_lashMixed_14 ⟨Nat.zero_le _, Nat.zero_le _⟩ (fun q14 H locs e14 hP hD hok hS => ?_)
  refine lv_if_ne (tgt := 23) hx hb dX0_lashMixed_17 (by decide) (fun c17 => ?_) (fun c17 => ?_)
  · refine lv_aload_n hx hb dX0_lashMixed_23 rfl (lv_at hl 2 rfl) ?_
    refine lv_iconst (v := 0) hx hb dX0_lashMixed_24 (by decide) ?_
    refine va_put (D := gD G) (ci := 3) (v := .int (0 : Int32)) (ty := .int) (C := RX3) (T := TX3) (N := 6) hx hb hts iX3 tyX3 tyX3_ok nmX3 hown hE.1 hP hD hS 4 rfl rfl 3 (by decide) k0 (fun _ h9 => h9) rfl (by decide +kernel) rfl rfl (Nat.le_of_ble_eq_true rfl) dX0_lashMixed_25 (fun H locs hP hD hS => ?_)
    have hP : va_P (gD G) vwCl ((b_W (gI G) hB hT hW hEn hV) (b_sCh q14.2 (0 : Int32))) H := hP
    have hD : va_D A ((b_W (gI G) hB hT hW hEn hV) (b_sCh q14.2 (0 : Int32))) := hD
    have hok : b_ok (b_sCh q14.2 (0 : Int32)) := hok
    refine lv_aload_n hx hb dX0_lashMixed_28 rfl (lv_at hl 1 rfl) ?_
    refine lv_aload_n hx hb dX0_lashMixed_29 rfl (lv_at hl 2 rfl) ?_
    refine lv_bipush (v := 9) hx hb dX0_lashMixed_30 (by decide) ?_
    refine lv_iconst (v := 3) hx hb dX0_lashMixed_32 (by decide) ?_
    refine lv_iload_n hx hb dX0_lashMixed_33 rfl (lv_at hl 3 rfl) ?_
    refine lv_iload_n hx hb dX0_lashMixed_34 rfl (lv_at hl 4 rfl) ?_
    refine gVi (u := b_sCh q14.2 (0 : Int32)) (Wd := (b_W (gI G) hB hT hW hEn hV)) (ok := b_ok) (As := [.ref hV, .int (9 : Int32), .int (3 : Int32), .int n, .int dp]) (rest := []) ⟨hx, hb, hml, hown, hts⟩ (c_X0_askAbove l G A hB hT hW hEn hV k dp K hK (9 : Int32) (3 : Int32) n (b_sCh q14.2 (0 : Int32)) hok) (cwV 5 hts gX0_lashMixed_X0_askAbove rfl rfl rfl (by decide +kernel) ⟨by show 4 * k + 5 + 1 ≤ 4 * k + 6; omega, by show 8 + (6 + 11) + (120 * k + 86) ≤ 120 * k + 111; omega⟩) hE hP hD hS (va_recv hE.1 hP (ci := 0) (q0 := 0) rfl rfl) rfl hl.1 rfl (Nat.le_of_ble_eq_true rfl) dX0_lashMixed_35 ⟨Nat.zero_le _, Nat.zero_le _⟩ (fun q35 H locs e35 hP hD hok hS => ?_)
    exact gRi (u := q35.2) hx hb hr hlk hP hD hok hS (by rw [← hfv, f_X0_lashMixed, ← e7, f_X0_lashMixed_k7, ← e14, f_X0_lashMixed_k14, if_neg c17, ← e35, f_X0_lashMixed_k35]) dX0_lashMixed_38
  · refine lv_iload hx hb dX0_lashMixed_20 (lv_at hl 0 rfl) ?_
    exact gRi (u := q14.2) hx hb hr hlk hP hD hok hS (by rw [← hfv, f_X0_lashMixed, ← e7, f_X0_lashMixed_k7, ← e14, f_X0_lashMixed_k14, if_pos c17]) dX0_lashMixed_22
set_option maxHeartbeats 4000000 in
set_option maxRecDepth 100000 in
theorem c_X0_lashMixed (l : Launch) (G : gC) (A : Nat → Prop) (hB hT hW hEn hV : Nat) (k : Nat) (dp : Int32) (K : Int32 → Int32 → Int32 → BS → Int32 × BS) (hK : ∀ (kd mb n : Int32) (u : BS), b_ok u → CI l yX0_start wsX0_start ({ frames := 4 * k + 4, cells := 0, slots := 0, locals := 120 * k + 60 } : Room) G A (b_W (gI G) hB hT hW hEn hV) b_ok [.ref hB, .ref hV, .int kd, .int mb, .int n, .int (dp + 1)] u (K kd mb n u)) (n : Int32) (u : BS) (hok : b_ok u) : CI l yX0_lashMixed wsX0_lashMixed ({ frames := 4 * k + 6, cells := 0, slots := 0, locals := 120 * k + 111 } : Room) G A (b_W (gI G) hB hT hW hEn hV) b_ok [.ref hB, .ref hV, .int n, .int dp] u (f_X0_lashMixed K n u) := by
  refine Met.ofW (cc := cX0_lashMixed) (maxL := 5) (ret := (some .int)) (by decide) rfl ?_
  intro p e s m args below meth c s₁ B hml hv
  obtain ⟨rfl, hE, hP, hD⟩ := hv
  have hl := lv_entry ([.ref hB, .ref hV, .int n, .int dp]) (n := 5) (Nat.le_of_ble_eq_true rfl)
  rw [lg_entry_eq]
  generalize (lg_sl ([.ref hB, .ref hV, .int n, .int dp]) ++ List.replicate (5 - (lg_sl ([.ref hB, .ref hV, .int n, .int dp])).length) Slot.unset).toArray = ls at hl ⊢
  exact c_X0_lashMixed_0 l G A hB hT hW hEn hV k dp K hK ⟨⟨B.exec, B.bytes, hml, findClass_of_methodNamed B.named, atoms_spec (ws := wsX0_lashMixed) B.pre⟩, B.returns, B.notSynchronized⟩ hE n u hP hD hok va_S.rf hl rfl
end
section
-- FerryDecks$Bodies.lengthBody
def f_X0_lengthBody_k15 (K : Int32 → Int32 → Int32 → BS → Int32 × BS) (kd : Int32) (q15 : Int32 × BS) : Int32 × BS :=
  (if kd = 2 then (q15.1 + (1 : Int32), q15.2) else (if kd = 4 then (q15.1 + (b_T q15.2 ((0 : Int32) : Int32).toNatClampNeg), q15.2) else (if kd = 6 then (q15.1 + (2 : Int32), q15.2) else (if q15.1 - (1 : Int32) < (1 : Int32) then (1 : Int32) else q15.1 - (1 : Int32), q15.2))))
def f_X0_lengthBody (K : Int32 → Int32 → Int32 → BS → Int32 × BS) (kd : Int32) (u : BS) : Int32 × BS :=
  (if kd = 0 then (b_sz u, u) else (f_X0_lengthBody_k15 K kd (f_X0_askAbove K kd (0 : Int32) (0 : Int32) u)))
set_option maxHeartbeats 4000000 in
set_option maxRecDepth 100000 in
theorem c_X0_lengthBody_0 {p : Program} {e : Env} {s : State} {m : MethodId} {args : Array Value} {below : List Frame} {meth : Method} {c : Code} (l : Launch) (G : gC) (A : Nat → Prop) (hB hT hW hEn hV : Nat) (k : Nat) (dp : Int32) (K : Int32 → Int32 → Int32 → BS → Int32 × BS) (hK : ∀ (kd mb n : Int32) (u : BS), b_ok u → CI l yX0_start wsX0_start ({ frames := 4 * k + 4, cells := 0, slots := 0, locals := 120 * k + 60 } : Room) G A (b_W (gI G) hB hT hW hEn hV) b_ok [.ref hB, .ref hV, .int kd, .int mb, .int n, .int (dp + 1)] u (K kd mb n u)) (C0 : gX p s m args meth c cX0_lengthBody 5 wsX0_lengthBody RX0 (some .int)) (hE : gE G A s) (kd : Int32) (u : BS) {H : Heap} {locs : List Loc} (hP : va_P (gD G) vwCl ((b_W (gI G) hB hT hW hEn hV) u) H) (hD : va_D A ((b_W (gI G) hB hT hW hEn hV) u)) (hok : b_ok u) (hS : va_S A s.heap H locs) {ls : Array Slot} (hl : lv_has ls 5 [(0, .ref hB), (1, .ref hV), (2, .int kd), (3, .int dp)]) {fv : Int32 × BS} (hfv : f_X0_lengthBody K kd u = fv) : W p l e ({ frames := 4 * k + 7, cells := 0, slots := 0, locals := 120 * k + 135 } : Room) s m args below meth c H locs 0 0 (MQ below (gQi G A (b_W (gI G) hB hT hW hEn hV) b_ok fv) args s 0 0 A) (F0 m 0 ls []) := by
  obtain ⟨⟨hx, hb, hml, hown, hts⟩, hr, hlk⟩ := id C0
  have hok0 := hok
  have k0 := hts (.fieldLink RX0 9 "FerryDecks$Bodies" "terms" "[I") (by decide +kernel)
  have k1 := hts (.methodLink RX0 84 Lib.Math.max.name) (by decide +kernel)
  have k2 := hts (.static Lib.Math.max.name) (by decide +kernel)
  have k3 := hts (.initialized "java/lang/Math") (by decide +kernel)
  have k4 := hts (.code Lib.Math.max.name Lib.Math.max.code 2 (some .int)) (by decide +kernel)
  have k5 := hts (.fieldLink RX0 80 "FerryDecks$Vehicle" "size" "I") (by decide +kernel)
  have iX0 : ∀ w ∈ wsX00, w ∈ wsX0_lengthBody := by decide +kernel
  have iX3 : ∀ w ∈ wsX30, w ∈ wsX0_lengthBody := by decide +kernel
  refine lv_iload_n hx hb dX0_lengthBody_0 rfl (lv_at hl 2 rfl) ?_
  refine lv_if_ne (tgt := 9) hx hb dX0_lengthBody_1 (by decide) (fun c1 => ?_) (fun c1 => ?_)
  · refine lv_aload_n hx hb dX0_lengthBody_9 rfl (lv_at hl 0 rfl) ?_
    refine lv_aload_n hx hb dX0_lengthBody_10 rfl (lv_at hl 1 rfl) ?_
    refine lv_iload_n hx hb dX0_lengthBody_11 rfl (lv_at hl 2 rfl) ?_
    refine lv_iconst (v := 0) hx hb dX0_lengthBody_12 (by decide) ?_
    refine lv_iconst (v := 0) hx hb dX0_lengthBody_13 (by decide) ?_
    refine lv_iload_n hx hb dX0_lengthBody_14 rfl (lv_at hl 3 rfl) ?_
    refine gVi (u := u) (Wd := (b_W (gI G) hB hT hW hEn hV)) (ok := b_ok) (As := [.ref hV, .int kd, .int (0 : Int32), .int (0 : Int32), .int dp]) (rest := []) ⟨hx, hb, hml, hown, hts⟩ (c_X0_askAbove l G A hB hT hW hEn hV k dp K hK kd (0 : Int32) (0 : Int32) u hok) (cwV 5 hts gX0_lengthBody_X0_askAbove rfl rfl rfl (by decide +kernel) ⟨by show 4 * k + 5 + 1 ≤ 4 * k + 7; omega, by show 8 + (6 + 11) + (120 * k + 86) ≤ 120 * k + 135; omega⟩) hE hP hD hS (va_recv hE.1 hP (ci := 0) (q0 := 0) rfl rfl) rfl hl.1 rfl (Nat.le_of_ble_eq_true rfl) dX0_lengthBody_15 ⟨Nat.zero_le _, Nat.zero_le _⟩ (fun q15 H locs e15 hP hD hok hS => ?_)
    refine lv_istore (lv' := [(4, .int q15.1), (0, .ref hB), (1, .ref hV), (2, .int kd), (3, .int dp)]) hx hb dX0_lengthBody_18 hl (by decide) rfl (fun ls hl => ?_)
    refine lv_iload_n hx hb dX0_lengthBody_20 rfl (lv_at hl 3 rfl) ?_
    by_cases c21_2 : kd = 2
    · refine gTs (off := 35) (tgt := 56) hx hb dX0_lengthBody_21 rfl (by rw [c21_2]; decide) (by decide) ?_
      refine lv_iload hx hb dX0_lengthBody_56 (lv_at hl 0 rfl) ?_
      refine lv_iconst (v := 1) hx hb dX0_lengthBody_58 (by decide) ?_
      refine lv_iadd hx hb dX0_lengthBody_59 ?_
      exact gRi (u := q15.2) hx hb hr hlk hP hD hok hS (by rw [← hfv, f_X0_lengthBody, if_neg c1, ← e15, f_X0_lengthBody_k15, if_pos c21_2]) dX0_lengthBody_60
    by_cases c21_4 : kd = 4
    · refine gTs (off := 40) (tgt := 61) hx hb dX0_lengthBody_21 rfl (by rw [c21_4]; decide) (by decide) ?_
      refine lv_iload hx hb dX0_lengthBody_61 (lv_at hl 0 rfl) ?_
      refine lv_aload_n hx hb dX0_lengthBody_63 rfl (lv_at hl 1 rfl) ?_
      refine va_get (D := gD G) (ci := 0) (v := .ref hT) (C := RX0) (T := TX0) (N := 3) hx hb hts iX0 hown hE.1 hP 0 rfl rfl 0 (by decide) k0 (fun _ h9 => h9) rfl dX0_lengthBody_64 ?_
      refine lv_iconst (v := 0) hx hb dX0_lengthBody_67 (by decide) ?_
      refine va_iald hx hb hE.1 hP 1 0 rfl rfl (gIn (by decide) (by decide) (by decide)) dX0_lengthBody_68 ?_
      refine lv_iadd hx hb dX0_lengthBody_69 ?_
      exact gRi (u := q15.2) hx hb hr hlk hP hD hok hS (by rw [← hfv, f_X0_lengthBody, if_neg c1, ← e15, f_X0_lengthBody_k15, if_neg c21_2, if_pos c21_4]) dX0_lengthBody_70
    by_cases c21_6 : kd = 6
    · refine gTs (off := 50) (tgt := 71) hx hb dX0_lengthBody_21 rfl (by rw [c21_6]; decide) (by decide) ?_
      refine lv_iload hx hb dX0_lengthBody_71 (lv_at hl 0 rfl) ?_
      refine lv_iconst (v := 2) hx hb dX0_lengthBody_73 (by decide) ?_
      refine lv_iadd hx hb dX0_lengthBody_74 ?_
      exact gRi (u := q15.2) hx hb hr hlk hP hD hok hS (by rw [← hfv, f_X0_lengthBody, if_neg c1, ← e15, f_X0_lengthBody_k15, if_neg c21_2, if_neg c21_4, if_pos c21_6]) dX0_lengthBody_75
    refine gTs (off := 55) (tgt := 76) hx hb dX0_lengthBody_21 rfl (by have z2 := lv_neT (a := 2) c21_2 (by decide); have z4 := lv_neT (a := 4) c21_4 (by decide); have z6 := lv_neT (a := 6) c21_6 (by decide); unfold tsO; by_cases hh : kd.toInt < 2 ∨ 6 < kd.toInt; (rw [if_pos hh]); (rw [if_neg hh]; rcases (show kd.toInt = 3 ∨ kd.toInt = 5 by omega) with h | h <;> rw [h] <;> rfl)) (by decide) ?_
    refine lv_iload hx hb dX0_lengthBody_76 (lv_at hl 0 rfl) ?_
    refine lv_iconst (v := 1) hx hb dX0_lengthBody_78 (by decide) ?_
    refine lv_isub hx hb dX0_lengthBody_79 ?_
    refine lv_iconst (v := 1) hx hb dX0_lengthBody_80 (by decide) ?_
    refine va_mmax hx hb (by rw [hml]; exact hl.1.symm) hown k1 k2 k3 k4 (by show 1 ≤ 4 * k + 7; omega) (by show _ + 13 ≤ 120 * k + 135; simp only [List.map, List.sum_cons, List.sum_nil, Value.category]; omega) (Nat.zero_le _) (Nat.zero_le _) dX0_lengthBody_81 ?_
    exact gRi (u := q15.2) hx hb hr hlk hP hD hok hS (by rw [← hfv, f_X0_lengthBody, if_neg c1, ← e15, f_X0_lengthBody_k15, if_neg c21_2, if_neg c21_4, if_neg c21_6]) dX0_lengthBody_84
  · refine lv_aload_n hx hb dX0_lengthBody_4 rfl (lv_at hl 1 rfl) ?_
    refine va_get (D := gD G) (ci := 3) (v := .int (b_sz u)) (C := RX3) (T := TX3) (N := 6) hx hb hts iX3 hown hE.1 hP 4 rfl rfl 1 (by decide) k5 (fun _ h9 => h9) rfl dX0_lengthBody_5 ?_
    exact gRi (u := u) hx hb hr hlk hP hD hok hS (by rw [← hfv, f_X0_lengthBody, if_pos c1]) dX0_lengthBody_8
set_option maxHeartbeats 4000000 in
set_option maxRecDepth 100000 in
theorem c_X0_lengthBody (l : Launch) (G : gC) (A : Nat → Prop) (hB hT hW hEn hV : Nat) (k : Nat) (dp : Int32) (K : Int32 → Int32 → Int32 → BS → Int32 × BS) (hK : ∀ (kd mb n : Int32) (u : BS), b_ok u → CI l yX0_start wsX0_start ({ frames := 4 * k + 4, cells := 0, slots := 0, locals := 120 * k + 60 } : Room) G A (b_W (gI G) hB hT hW hEn hV) b_ok [.ref hB, .ref hV, .int kd, .int mb, .int n, .int (dp + 1)] u (K kd mb n u)) (kd : Int32) (u : BS) (hok : b_ok u) : CI l yX0_lengthBody wsX0_lengthBody ({ frames := 4 * k + 7, cells := 0, slots := 0, locals := 120 * k + 135 } : Room) G A (b_W (gI G) hB hT hW hEn hV) b_ok [.ref hB, .ref hV, .int kd, .int dp] u (f_X0_lengthBody K kd u) := by
  refine Met.ofW (cc := cX0_lengthBody) (maxL := 5) (ret := (some .int)) (by decide) rfl ?_
  intro p e s m args below meth c s₁ B hml hv
  obtain ⟨rfl, hE, hP, hD⟩ := hv
  have hl := lv_entry ([.ref hB, .ref hV, .int kd, .int dp]) (n := 5) (Nat.le_of_ble_eq_true rfl)
  rw [lg_entry_eq]
  generalize (lg_sl ([.ref hB, .ref hV, .int kd, .int dp]) ++ List.replicate (5 - (lg_sl ([.ref hB, .ref hV, .int kd, .int dp])).length) Slot.unset).toArray = ls at hl ⊢
  exact c_X0_lengthBody_0 l G A hB hT hW hEn hV k dp K hK ⟨⟨B.exec, B.bytes, hml, findClass_of_methodNamed B.named, atoms_spec (ws := wsX0_lengthBody) B.pre⟩, B.returns, B.notSynchronized⟩ hE kd u hP hD hok va_S.rf hl rfl

-- FerryDecks$Bodies.markBody
def f_X0_markBody_k18 (K : Int32 → Int32 → Int32 → BS → Int32 × BS) (kd : Int32) (q18 : Int32 × BS) : Int32 × BS :=
  (if kd = 3 then (q18.1 + ((b_ld q18.2) - (b_ld q18.2) / (7 : Int32) * (7 : Int32)), q18.2) else (if kd = 5 then ((2 : Int32) * q18.1, q18.2) else (q18.1 + (5 : Int32), q18.2)))
def f_X0_markBody (K : Int32 → Int32 → Int32 → BS → Int32 × BS) (kd : Int32) (u : BS) : Int32 × BS :=
  (if kd = 0 then ((b_sz u) - (b_sz u) / (10 : Int32) * (10 : Int32), u) else (f_X0_markBody_k18 K kd (f_X0_askAbove K kd (4 : Int32) (0 : Int32) u)))
set_option maxHeartbeats 4000000 in
set_option maxRecDepth 100000 in
theorem c_X0_markBody_0 {p : Program} {e : Env} {s : State} {m : MethodId} {args : Array Value} {below : List Frame} {meth : Method} {c : Code} (l : Launch) (G : gC) (A : Nat → Prop) (hB hT hW hEn hV : Nat) (k : Nat) (dp : Int32) (K : Int32 → Int32 → Int32 → BS → Int32 × BS) (hK : ∀ (kd mb n : Int32) (u : BS), b_ok u → CI l yX0_start wsX0_start ({ frames := 4 * k + 4, cells := 0, slots := 0, locals := 120 * k + 60 } : Room) G A (b_W (gI G) hB hT hW hEn hV) b_ok [.ref hB, .ref hV, .int kd, .int mb, .int n, .int (dp + 1)] u (K kd mb n u)) (C0 : gX p s m args meth c cX0_markBody 5 wsX0_markBody RX0 (some .int)) (hE : gE G A s) (kd : Int32) (u : BS) {H : Heap} {locs : List Loc} (hP : va_P (gD G) vwCl ((b_W (gI G) hB hT hW hEn hV) u) H) (hD : va_D A ((b_W (gI G) hB hT hW hEn hV) u)) (hok : b_ok u) (hS : va_S A s.heap H locs) {ls : Array Slot} (hl : lv_has ls 5 [(0, .ref hB), (1, .ref hV), (2, .int kd), (3, .int dp)]) {fv : Int32 × BS} (hfv : f_X0_markBody K kd u = fv) : W p l e ({ frames := 4 * k + 7, cells := 0, slots := 0, locals := 120 * k + 135 } : Room) s m args below meth c H locs 0 0 (MQ below (gQi G A (b_W (gI G) hB hT hW hEn hV) b_ok fv) args s 0 0 A) (F0 m 0 ls []) := by
  obtain ⟨⟨hx, hb, hml, hown, hts⟩, hr, hlk⟩ := id C0
  have hok0 := hok
  have k0 := hts (.fieldLink RX0 96 "FerryDecks$Vehicle" "load" "I") (by decide +kernel)
  have k1 := hts (.fieldLink RX0 80 "FerryDecks$Vehicle" "size" "I") (by decide +kernel)
  have iX3 : ∀ w ∈ wsX30, w ∈ wsX0_markBody := by decide +kernel
  refine lv_iload_n hx hb dX0_markBody_0 rfl (lv_at hl 2 rfl) ?_
  refine lv_if_ne (tgt := 12) hx hb dX0_markBody_1 (by decide) (fun c1 => ?_) (fun c1 => ?_)
  · refine lv_aload_n hx hb dX0_markBody_12 rfl (lv_at hl 0 rfl) ?_
    refine lv_aload_n hx hb dX0_markBody_13 rfl (lv_at hl 1 rfl) ?_
    refine lv_iload_n hx hb dX0_markBody_14 rfl (lv_at hl 2 rfl) ?_
    refine lv_iconst (v := 4) hx hb dX0_markBody_15 (by decide) ?_
    refine lv_iconst (v := 0) hx hb dX0_markBody_16 (by decide) ?_
    refine lv_iload_n hx hb dX0_markBody_17 rfl (lv_at hl 3 rfl) ?_
    refine gVi (u := u) (Wd := (b_W (gI G) hB hT hW hEn hV)) (ok := b_ok) (As := [.ref hV, .int kd, .int (4 : Int32), .int (0 : Int32), .int dp]) (rest := []) ⟨hx, hb, hml, hown, hts⟩ (c_X0_askAbove l G A hB hT hW hEn hV k dp K hK kd (4 : Int32) (0 : Int32) u hok) (cwV 5 hts gX0_markBody_X0_askAbove rfl rfl rfl (by decide +kernel) ⟨by show 4 * k + 5 + 1 ≤ 4 * k + 7; omega, by show 8 + (6 + 11) + (120 * k + 86) ≤ 120 * k + 135; omega⟩) hE hP hD hS (va_recv hE.1 hP (ci := 0) (q0 := 0) rfl rfl) rfl hl.1 rfl (Nat.le_of_ble_eq_true rfl) dX0_markBody_18 ⟨Nat.zero_le _, Nat.zero_le _⟩ (fun q18 H locs e18 hP hD hok hS => ?_)
    refine lv_istore (lv' := [(4, .int q18.1), (0, .ref hB), (1, .ref hV), (2, .int kd), (3, .int dp)]) hx hb dX0_markBody_21 hl (by decide) rfl (fun ls hl => ?_)
    refine lv_iload_n hx hb dX0_markBody_23 rfl (lv_at hl 3 rfl) ?_
    by_cases c24_3 : kd = 3
    · refine lv_lookup (off := 28) (tgt := 52) hx hb dX0_markBody_24 (by decide) (by rw [c24_3]; decide) (by decide) ?_
      refine lv_iload hx hb dX0_markBody_52 (lv_at hl 0 rfl) ?_
      refine lv_aload_n hx hb dX0_markBody_54 rfl (lv_at hl 2 rfl) ?_
      refine va_get (D := gD G) (ci := 3) (v := .int (b_ld q18.2)) (C := RX3) (T := TX3) (N := 6) hx hb hts iX3 hown hE.1 hP 4 rfl rfl 2 (by decide) k0 (fun _ h9 => h9) rfl dX0_markBody_55 ?_
      refine lv_bipush (v := 7) hx hb dX0_markBody_58 (by decide) ?_
      refine lv_irem hx hb dX0_markBody_60 (by decide) ?_
      refine lv_iadd hx hb dX0_markBody_61 ?_
      exact gRi (u := q18.2) hx hb hr hlk hP hD hok hS (by rw [← hfv, f_X0_markBody, if_neg c1, ← e18, f_X0_markBody_k18, if_pos c24_3]) dX0_markBody_62
    by_cases c24_5 : kd = 5
    · refine lv_lookup (off := 39) (tgt := 63) hx hb dX0_markBody_24 (by decide) (by rw [c24_5]; decide) (by decide) ?_
      refine lv_iconst (v := 2) hx hb dX0_markBody_63 (by decide) ?_
      refine lv_iload hx hb dX0_markBody_64 (lv_at hl 0 rfl) ?_
      refine lv_imul hx hb dX0_markBody_66 ?_
      exact gRi (u := q18.2) hx hb hr hlk hP hD hok hS (by rw [← hfv, f_X0_markBody, if_neg c1, ← e18, f_X0_markBody_k18, if_neg c24_3, if_pos c24_5]) dX0_markBody_67
    refine lv_lookup (off := 44) (tgt := 68) hx hb dX0_markBody_24 (by decide) (by show Op.lookupswitch.offset [(3, 28), (5, 39)] 44 kd.toInt = 44; rw [lv_osw (a := 3) c24_3 (by decide), lv_osw (a := 5) c24_5 (by decide)]; rfl) (by decide) ?_
    refine lv_iload hx hb dX0_markBody_68 (lv_at hl 0 rfl) ?_
    refine lv_iconst (v := 5) hx hb dX0_markBody_70 (by decide) ?_
    refine lv_iadd hx hb dX0_markBody_71 ?_
    exact gRi (u := q18.2) hx hb hr hlk hP hD hok hS (by rw [← hfv, f_X0_markBody, if_neg c1, ← e18, f_X0_markBody_k18, if_neg c24_3, if_neg c24_5]) dX0_markBody_72
  · refine lv_aload_n hx hb dX0_markBody_4 rfl (lv_at hl 1 rfl) ?_
    refine va_get (D := gD G) (ci := 3) (v := .int (b_sz u)) (C := RX3) (T := TX3) (N := 6) hx hb hts iX3 hown hE.1 hP 4 rfl rfl 1 (by decide) k1 (fun _ h9 => h9) rfl dX0_markBody_5 ?_
    refine lv_bipush (v := 10) hx hb dX0_markBody_8 (by decide) ?_
    refine lv_irem hx hb dX0_markBody_10 (by decide) ?_
    exact gRi (u := u) hx hb hr hlk hP hD hok hS (by rw [← hfv, f_X0_markBody, if_pos c1]) dX0_markBody_11
set_option maxHeartbeats 4000000 in
set_option maxRecDepth 100000 in
theorem c_X0_markBody (l : Launch) (G : gC) (A : Nat → Prop) (hB hT hW hEn hV : Nat) (k : Nat) (dp : Int32) (K : Int32 → Int32 → Int32 → BS → Int32 × BS) (hK : ∀ (kd mb n : Int32) (u : BS), b_ok u → CI l yX0_start wsX0_start ({ frames := 4 * k + 4, cells := 0, slots := 0, locals := 120 * k + 60 } : Room) G A (b_W (gI G) hB hT hW hEn hV) b_ok [.ref hB, .ref hV, .int kd, .int mb, .int n, .int (dp + 1)] u (K kd mb n u)) (kd : Int32) (u : BS) (hok : b_ok u) : CI l yX0_markBody wsX0_markBody ({ frames := 4 * k + 7, cells := 0, slots := 0, locals := 120 * k + 135 } : Room) G A (b_W (gI G) hB hT hW hEn hV) b_ok [.ref hB, .ref hV, .int kd, .int dp] u (f_X0_markBody K kd u) := by
  refine Met.ofW (cc := cX0_markBody) (maxL := 5) (ret := (some .int)) (by decide) rfl ?_
  intro p e s m args below meth c s₁ B hml hv
  obtain ⟨rfl, hE, hP, hD⟩ := hv
  have hl := lv_entry ([.ref hB, .ref hV, .int kd, .int dp]) (n := 5) (Nat.le_of_ble_eq_true rfl)
  rw [lg_entry_eq]
  generalize (lg_sl ([.ref hB, .ref hV, .int kd, .int dp]) ++ List.replicate (5 - (lg_sl ([.ref hB, .ref hV, .int kd, .int dp])).length) Slot.unset).toArray = ls at hl ⊢
  exact c_X0_markBody_0 l G A hB hT hW hEn hV k dp K hK ⟨⟨B.exec, B.bytes, hml, findClass_of_methodNamed B.named, atoms_spec (ws := wsX0_markBody) B.pre⟩, B.returns, B.notSynchronized⟩ hE kd u hP hD hok va_S.rf hl rfl

-- FerryDecks$Bodies.hookBody
def f_X0_hookBody_k45 (K : Int32 → Int32 → Int32 → BS → Int32 × BS) (q45 : Int32 × BS) : Int32 × BS :=
  (q45.1 + (b_T q45.2 ((6 : Int32) : Int32).toNatClampNeg), q45.2)
def f_X0_hookBody_k83 (K : Int32 → Int32 → Int32 → BS → Int32 × BS) (q73 : Int32 × BS) (q83 : Int32 × BS) : Int32 × BS :=
  (q73.1 + q83.1, q83.2)
def f_X0_hookBody_k73 (K : Int32 → Int32 → Int32 → BS → Int32 × BS) (kd : Int32) (q73 : Int32 × BS) : Int32 × BS :=
  (f_X0_hookBody_k83 K q73 (f_X0_askAbove K kd (6 : Int32) (0 : Int32) q73.2))
def f_X0_hookBody (K : Int32 → Int32 → Int32 → BS → Int32 × BS) (kd : Int32) (u : BS) : Int32 × BS :=
  (if kd = 3 then ((3 : Int32), u) else (if kd = 5 then (f_X0_hookBody_k45 K (f_X0_askAbove K kd (6 : Int32) (0 : Int32) u)) else (if kd = 7 then ((b_ld u) / (1000 : Int32), u) else (f_X0_hookBody_k73 K kd (f_X0_askAbove K kd (6 : Int32) (0 : Int32) u)))))
set_option maxHeartbeats 4000000 in
set_option maxRecDepth 100000 in
theorem c_X0_hookBody_0 {p : Program} {e : Env} {s : State} {m : MethodId} {args : Array Value} {below : List Frame} {meth : Method} {c : Code} (l : Launch) (G : gC) (A : Nat → Prop) (hB hT hW hEn hV : Nat) (k : Nat) (dp : Int32) (K : Int32 → Int32 → Int32 → BS → Int32 × BS) (hK : ∀ (kd mb n : Int32) (u : BS), b_ok u → CI l yX0_start wsX0_start ({ frames := 4 * k + 4, cells := 0, slots := 0, locals := 120 * k + 60 } : Room) G A (b_W (gI G) hB hT hW hEn hV) b_ok [.ref hB, .ref hV, .int kd, .int mb, .int n, .int (dp + 1)] u (K kd mb n u)) (C0 : gX p s m args meth c cX0_hookBody 4 wsX0_hookBody RX0 (some .int)) (hE : gE G A s) (kd : Int32) (u : BS) {H : Heap} {locs : List Loc} (hP : va_P (gD G) vwCl ((b_W (gI G) hB hT hW hEn hV) u) H) (hD : va_D A ((b_W (gI G) hB hT hW hEn hV) u)) (hok : b_ok u) (hS : va_S A s.heap H locs) {ls : Array Slot} (hl : lv_has ls 4 [(0, .ref hB), (1, .ref hV), (2, .int kd), (3, .int dp)]) {fv : Int32 × BS} (hfv : f_X0_hookBody K kd u = fv) : W p l e ({ frames := 4 * k + 7, cells := 0, slots := 0, locals := 120 * k + 135 } : Room) s m args below meth c H locs 0 0 (MQ below (gQi G A (b_W (gI G) hB hT hW hEn hV) b_ok fv) args s 0 0 A) (F0 m 0 ls []) := by
  obtain ⟨⟨hx, hb, hml, hown, hts⟩, hr, hlk⟩ := id C0
  have hok0 := hok
  have k0 := hts (.fieldLink RX0 9 "FerryDecks$Bodies" "terms" "[I") (by decide +kernel)
  have k1 := hts (.fieldLink RX0 96 "FerryDecks$Vehicle" "load" "I") (by decide +kernel)
  have iX0 : ∀ w ∈ wsX00, w ∈ wsX0_hookBody := by decide +kernel
  have iX3 : ∀ w ∈ wsX30, w ∈ wsX0_hookBody := by decide +kernel
  refine lv_iload_n hx hb dX0_hookBody_0 rfl (lv_at hl 2 rfl) ?_
  by_cases c1_3 : kd = 3
  · refine gTs (off := 35) (tgt := 36) hx hb dX0_hookBody_1 rfl (by rw [c1_3]; decide) (by decide) ?_
    refine lv_iconst (v := 3) hx hb dX0_hookBody_36 (by decide) ?_
    exact gRi (u := u) hx hb hr hlk hP hD hok hS (by rw [← hfv, f_X0_hookBody, if_pos c1_3]) dX0_hookBody_37
  by_cases c1_5 : kd = 5
  · refine gTs (off := 37) (tgt := 38) hx hb dX0_hookBody_1 rfl (by rw [c1_5]; decide) (by decide) ?_
    refine lv_aload_n hx hb dX0_hookBody_38 rfl (lv_at hl 0 rfl) ?_
    refine lv_aload_n hx hb dX0_hookBody_39 rfl (lv_at hl 1 rfl) ?_
    refine lv_iload_n hx hb dX0_hookBody_40 rfl (lv_at hl 2 rfl) ?_
    refine lv_bipush (v := 6) hx hb dX0_hookBody_41 (by decide) ?_
    refine lv_iconst (v := 0) hx hb dX0_hookBody_43 (by decide) ?_
    refine lv_iload_n hx hb dX0_hookBody_44 rfl (lv_at hl 3 rfl) ?_
    refine gVi (u := u) (Wd := (b_W (gI G) hB hT hW hEn hV)) (ok := b_ok) (As := [.ref hV, .int kd, .int (6 : Int32), .int (0 : Int32), .int dp]) (rest := []) ⟨hx, hb, hml, hown, hts⟩ (c_X0_askAbove l G A hB hT hW hEn hV k dp K hK kd (6 : Int32) (0 : Int32) u hok) (cwV 5 hts gX0_hookBody_X0_askAbove rfl rfl rfl (by decide +kernel) ⟨by show 4 * k + 5 + 1 ≤ 4 * k + 7; omega, by show 8 + (6 + 11) + (120 * k + 86) ≤ 120 * k + 135; omega⟩) hE hP hD hS (va_recv hE.1 hP (ci := 0) (q0 := 0) rfl rfl) rfl hl.1 rfl (Nat.le_of_ble_eq_true rfl) dX0_hookBody_45 ⟨Nat.zero_le _, Nat.zero_le _⟩ (fun q45 H locs e45 hP hD hok hS => ?_)
    refine lv_aload_n hx hb dX0_hookBody_48 rfl (lv_at hl 0 rfl) ?_
    refine va_get (D := gD G) (ci := 0) (v := .ref hT) (C := RX0) (T := TX0) (N := 3) hx hb hts iX0 hown hE.1 hP 0 rfl rfl 0 (by decide) k0 (fun _ h9 => h9) rfl dX0_hookBody_49 ?_
    refine lv_bipush (v := 6) hx hb dX0_hookBody_52 (by decide) ?_
    refine va_iald hx hb hE.1 hP 1 0 rfl rfl (gIn (by decide) (by decide) (by decide)) dX0_hookBody_54 ?_
    refine lv_iadd hx hb dX0_hookBody_55 ?_
    exact gRi (u := q45.2) hx hb hr hlk hP hD hok hS (by rw [← hfv, f_X0_hookBody, if_neg c1_3, if_pos c1_5, ← e45, f_X0_hookBody_k45]) dX0_hookBody_56
  by_cases c1_7 : kd = 7
  · refine gTs (off := 56) (tgt := 57) hx hb dX0_hookBody_1 rfl (by rw [c1_7]; decide) (by decide) ?_
    refine lv_aload_n hx hb dX0_hookBody_57 rfl (lv_at hl 1 rfl) ?_
    refine va_get (D := gD G) (ci := 3) (v := .int (b_ld u)) (C := RX3) (T := TX3) (N := 6) hx hb hts iX3 hown hE.1 hP 4 rfl rfl 2 (by decide) k1 (fun _ h9 => h9) rfl dX0_hookBody_58 ?_
    refine lv_sipush (v := 1000) hx hb dX0_hookBody_61 (by decide) ?_
    refine lv_idiv hx hb dX0_hookBody_64 (by decide) ?_
    exact gRi (u := u) hx hb hr hlk hP hD hok hS (by rw [← hfv, f_X0_hookBody, if_neg c1_3, if_neg c1_5, if_pos c1_7]) dX0_hookBody_65
  refine gTs (off := 65) (tgt := 66) hx hb dX0_hookBody_1 rfl (by have z3 := lv_neT (a := 3) c1_3 (by decide); have z5 := lv_neT (a := 5) c1_5 (by decide); have z7 := lv_neT (a := 7) c1_7 (by decide); unfold tsO; by_cases hh : kd.toInt < 3 ∨ 7 < kd.toInt; (rw [if_pos hh]); (rw [if_neg hh]; rcases (show kd.toInt = 4 ∨ kd.toInt = 6 by omega) with h | h <;> rw [h] <;> rfl)) (by decide) ?_
  refine lv_aload_n hx hb dX0_hookBody_66 rfl (lv_at hl 0 rfl) ?_
  refine lv_aload_n hx hb dX0_hookBody_67 rfl (lv_at hl 1 rfl) ?_
  refine lv_iload_n hx hb dX0_hookBody_68 rfl (lv_at hl 2 rfl) ?_
  refine lv_bipush (v := 6) hx hb dX0_hookBody_69 (by decide) ?_
  refine lv_iconst (v := 0) hx hb dX0_hookBody_71 (by decide) ?_
  refine lv_iload_n hx hb dX0_hookBody_72 rfl (lv_at hl 3 rfl) ?_
  refine gVi (u := u) (Wd := (b_W (gI G) hB hT hW hEn hV)) (ok := b_ok) (As := [.ref hV, .int kd, .int (6 : Int32), .int (0 : Int32), .int dp]) (rest := []) ⟨hx, hb, hml, hown, hts⟩ (c_X0_askAbove l G A hB hT hW hEn hV k dp K hK kd (6 : Int32) (0 : Int32) u hok) (cwV 5 hts gX0_hookBody_X0_askAbove rfl rfl rfl (by decide +kernel) ⟨by show 4 * k + 5 + 1 ≤ 4 * k + 7; omega, by show 8 + (6 + 11) + (120 * k + 86) ≤ 120 * k + 135; omega⟩) hE hP hD hS (va_recv hE.1 hP (ci := 0) (q0 := 0) rfl rfl) rfl hl.1 rfl (Nat.le_of_ble_eq_true rfl) dX0_hookBody_73 ⟨Nat.zero_le _, Nat.zero_le _⟩ (fun q73 H locs e73 hP hD hok hS => ?_)
  refine lv_aload_n hx hb dX0_hookBody_76 rfl (lv_at hl 0 rfl) ?_
  refine lv_aload_n hx hb dX0_hookBody_77 rfl (lv_at hl 1 rfl) ?_
  refine lv_iload_n hx hb dX0_hookBody_78 rfl (lv_at hl 2 rfl) ?_
  refine lv_bipush (v := 6) hx hb dX0_hookBody_79 (by decide) ?_
  refine lv_iconst (v := 0) hx hb dX0_hookBody_81 (by decide) ?_
  refine lv_iload_n hx hb dX0_hookBody_82 rfl (lv_at hl 3 rfl) ?_
  refine gVi (u := q73.2) (Wd := (b_W (gI G) hB hT hW hEn hV)) (ok := b_ok) (As := [.ref hV, .int kd, .int (6 : Int32), .int (0 : Int32), .int dp]) (rest := [.int q73.1]) ⟨hx, hb, hml, hown, hts⟩ (c_X0_askAbove l G A hB hT hW hEn hV k dp K hK kd (6 : Int32) (0 : Int32) q73.2 hok) (cwV 5 hts gX0_hookBody_X0_askAbove rfl rfl rfl (by decide +kernel) ⟨by show 4 * k + 5 + 1 ≤ 4 * k + 7; omega, by show 8 + (6 + 11) + (120 * k + 86) ≤ 120 * k + 135; omega⟩) hE hP hD hS (va_recv hE.1 hP (ci := 0) (q0 := 0) rfl rfl) rfl hl.1 rfl (Nat.le_of_ble_eq_true rfl) dX0_hookBody_83 ⟨Nat.zero_le _, Nat.zero_le _⟩ (fun q83 H locs e83 hP hD hok hS => ?_)
  refine lv_iadd hx hb dX0_hookBody_86 ?_
  exact gRi (u := q83.2) hx hb hr hlk hP hD hok hS (by rw [← hfv, f_X0_hookBody, if_neg c1_3, if_neg c1_5, if_neg c1_7, ← e73, f_X0_hookBody_k73, ← e83, f_X0_hookBody_k83]) dX0_hookBody_87
set_option maxHeartbeats 4000000 in
set_option maxRecDepth 100000 in
theorem c_X0_hookBody (l : Launch) (G : gC) (A : Nat → Prop) (hB hT hW hEn hV : Nat) (k : Nat) (dp : Int32) (K : Int32 → Int32 → Int32 → BS → Int32 × BS) (hK : ∀ (kd mb n : Int32) (u : BS), b_ok u → CI l yX0_start wsX0_start ({ frames := 4 * k + 4, cells := 0, slots := 0, locals := 120 * k + 60 } : Room) G A (b_W (gI G) hB hT hW hEn hV) b_ok [.ref hB, .ref hV, .int kd, .int mb, .int n, .int (dp + 1)] u (K kd mb n u)) (kd : Int32) (u : BS) (hok : b_ok u) : CI l yX0_hookBody wsX0_hookBody ({ frames := 4 * k + 7, cells := 0, slots := 0, locals := 120 * k + 135 } : Room) G A (b_W (gI G) hB hT hW hEn hV) b_ok [.ref hB, .ref hV, .int kd, .int dp] u (f_X0_hookBody K kd u) := by
  refine Met.ofW (cc := cX0_hookBody) (maxL := 4) (ret := (some .int)) (by decide) rfl ?_
  intro p e s m args below meth c s₁ B hml hv
  obtain ⟨rfl, hE, hP, hD⟩ := hv
  have hl := lv_entry ([.ref hB, .ref hV, .int kd, .int dp]) (n := 4) (Nat.le_of_ble_eq_true rfl)
  rw [lg_entry_eq]
  generalize (lg_sl ([.ref hB, .ref hV, .int kd, .int dp]) ++ List.replicate (4 - (lg_sl ([.ref hB, .ref hV, .int kd, .int dp])).length) Slot.unset).toArray = ls at hl ⊢
  exact c_X0_hookBody_0 l G A hB hT hW hEn hV k dp K hK ⟨⟨B.exec, B.bytes, hml, findClass_of_methodNamed B.named, atoms_spec (ws := wsX0_hookBody) B.pre⟩, B.returns, B.notSynchronized⟩ hE kd u hP hD hok va_S.rf hl rfl

-- FerryDecks$Bodies.pullBody
def f_X0_pullBody_k40 (K : Int32 → Int32 → Int32 → BS → Int32 × BS) (n : Int32) (q25 : Int32 × BS) (q40 : Int32 × BS) : Int32 × BS :=
  ((q25.1 * n) + q40.1, q40.2)
def f_X0_pullBody_k25 (K : Int32 → Int32 → Int32 → BS → Int32 × BS) (n : Int32) (q25 : Int32 × BS) : Int32 × BS :=
  (f_X0_pullBody_k40 K n q25 (f_X0_askVehicle K (4 : Int32) (0 : Int32) q25.2))
def f_X0_pullBody_k14 (K : Int32 → Int32 → Int32 → BS → Int32 × BS) (q14 : Int32 × BS) : Int32 × BS :=
  (q14.1, q14.2)
def f_X0_pullBody (K : Int32 → Int32 → Int32 → BS → Int32 × BS) (kd : Int32) (n : Int32) (u : BS) : Int32 × BS :=
  (if kd = (5 : Int32) then (f_X0_pullBody_k14 K (f_X0_askAbove K kd (5 : Int32) (n + (1 : Int32)) u)) else (f_X0_pullBody_k25 K n (f_X0_askVehicle K (6 : Int32) (0 : Int32) u)))
set_option maxHeartbeats 4000000 in
set_option maxRecDepth 100000 in
theorem c_X0_pullBody_0 {p : Program} {e : Env} {s : State} {m : MethodId} {args : Array Value} {below : List Frame} {meth : Method} {c : Code} (l : Launch) (G : gC) (A : Nat → Prop) (hB hT hW hEn hV : Nat) (k : Nat) (dp : Int32) (K : Int32 → Int32 → Int32 → BS → Int32 × BS) (hK : ∀ (kd mb n : Int32) (u : BS), b_ok u → CI l yX0_start wsX0_start ({ frames := 4 * k + 4, cells := 0, slots := 0, locals := 120 * k + 60 } : Room) G A (b_W (gI G) hB hT hW hEn hV) b_ok [.ref hB, .ref hV, .int kd, .int mb, .int n, .int (dp + 1)] u (K kd mb n u)) (C0 : gX p s m args meth c cX0_pullBody 6 wsX0_pullBody RX0 (some .int)) (hE : gE G A s) (kd : Int32) (n : Int32) (u : BS) {H : Heap} {locs : List Loc} (hP : va_P (gD G) vwCl ((b_W (gI G) hB hT hW hEn hV) u) H) (hD : va_D A ((b_W (gI G) hB hT hW hEn hV) u)) (hok : b_ok u) (hS : va_S A s.heap H locs) {ls : Array Slot} (hl : lv_has ls 6 [(0, .ref hB), (1, .ref hV), (2, .int kd), (3, .int n), (4, .int dp)]) {fv : Int32 × BS} (hfv : f_X0_pullBody K kd n u = fv) : W p l e ({ frames := 4 * k + 7, cells := 0, slots := 0, locals := 120 * k + 135 } : Room) s m args below meth c H locs 0 0 (MQ below (gQi G A (b_W (gI G) hB hT hW hEn hV) b_ok fv) args s 0 0 A) (F0 m 0 ls []) := by
  obtain ⟨⟨hx, hb, hml, hown, hts⟩, hr, hlk⟩ := id C0
  have hok0 := hok
  refine lv_iload_n hx hb dX0_pullBody_0 rfl (lv_at hl 2 rfl) ?_
  refine lv_iconst (v := 5) hx hb dX0_pullBody_1 (by decide) ?_
  refine lv_icmp_ne (tgt := 18) hx hb dX0_pullBody_2 (by decide) (fun c2 => ?_) (fun c2 => ?_)
  · refine lv_aload_n hx hb dX0_pullBody_18 rfl (lv_at hl 0 rfl) ?_
    refine lv_aload_n hx hb dX0_pullBody_19 rfl (lv_at hl 1 rfl) ?_
    refine lv_bipush (v := 6) hx hb dX0_pullBody_20 (by decide) ?_
    refine lv_iconst (v := 0) hx hb dX0_pullBody_22 (by decide) ?_
    refine lv_iload hx hb dX0_pullBody_23 (lv_at hl 4 rfl) ?_
    refine gVi (u := u) (Wd := (b_W (gI G) hB hT hW hEn hV)) (ok := b_ok) (As := [.ref hV, .int (6 : Int32), .int (0 : Int32), .int dp]) (rest := []) ⟨hx, hb, hml, hown, hts⟩ (c_X0_askVehicle l G A hB hT hW hEn hV k dp K hK (6 : Int32) (0 : Int32) u hok) (cwV 4 hts gX0_pullBody_X0_askVehicle rfl rfl rfl (by decide +kernel) ⟨by show 4 * k + 5 + 1 ≤ 4 * k + 7; omega, by show 8 + (5 + 11) + (120 * k + 86) ≤ 120 * k + 135; omega⟩) hE hP hD hS (va_recv hE.1 hP (ci := 0) (q0 := 0) rfl rfl) rfl hl.1 rfl (Nat.le_of_ble_eq_true rfl) dX0_pullBody_25 ⟨Nat.zero_le _, Nat.zero_le _⟩ (fun q25 H locs e25 hP hD hok hS => ?_)
    refine lv_istore (lv' := [(5, .int q25.1), (0, .ref hB), (1, .ref hV), (2, .int kd), (3, .int n), (4, .int dp)]) hx hb dX0_pullBody_28 hl (by decide) rfl (fun ls hl => ?_)
    refine lv_iload hx hb dX0_pullBody_30 (lv_at hl 0 rfl) ?_
    refine lv_iload_n hx hb dX0_pullBody_32 rfl (lv_at hl 4 rfl) ?_
    refine lv_imul hx hb dX0_pullBody_33 ?_
    refine lv_aload_n hx hb dX0_pullBody_34 rfl (lv_at hl 1 rfl) ?_
    refine lv_aload_n hx hb dX0_pullBody_35 rfl (lv_at hl 2 rfl) ?_
    refine lv_iconst (v := 4) hx hb dX0_pullBody_36 (by decide) ?_
    refine lv_iconst (v := 0) hx hb dX0_pullBody_37 (by decide) ?_
    refine lv_iload hx hb dX0_pullBody_38 (lv_at hl 5 rfl) ?_
    refine gVi (u := q25.2) (Wd := (b_W (gI G) hB hT hW hEn hV)) (ok := b_ok) (As := [.ref hV, .int (4 : Int32), .int (0 : Int32), .int dp]) (rest := [.int (q25.1 * n)]) ⟨hx, hb, hml, hown, hts⟩ (c_X0_askVehicle l G A hB hT hW hEn hV k dp K hK (4 : Int32) (0 : Int32) q25.2 hok) (cwV 4 hts gX0_pullBody_X0_askVehicle rfl rfl rfl (by decide +kernel) ⟨by show 4 * k + 5 + 1 ≤ 4 * k + 7; omega, by show 8 + (5 + 11) + (120 * k + 86) ≤ 120 * k + 135; omega⟩) hE hP hD hS (va_recv hE.1 hP (ci := 0) (q0 := 0) rfl rfl) rfl hl.1 rfl (Nat.le_of_ble_eq_true rfl) dX0_pullBody_40 ⟨Nat.zero_le _, Nat.zero_le _⟩ (fun q40 H locs e40 hP hD hok hS => ?_)
    refine lv_iadd hx hb dX0_pullBody_43 ?_
    exact gRi (u := q40.2) hx hb hr hlk hP hD hok hS (by rw [← hfv, f_X0_pullBody, if_neg c2, ← e25, f_X0_pullBody_k25, ← e40, f_X0_pullBody_k40]) dX0_pullBody_44
  · refine lv_aload_n hx hb dX0_pullBody_5 rfl (lv_at hl 0 rfl) ?_
    refine lv_aload_n hx hb dX0_pullBody_6 rfl (lv_at hl 1 rfl) ?_
    refine lv_iload_n hx hb dX0_pullBody_7 rfl (lv_at hl 2 rfl) ?_
    refine lv_iconst (v := 5) hx hb dX0_pullBody_8 (by decide) ?_
    refine lv_iload_n hx hb dX0_pullBody_9 rfl (lv_at hl 3 rfl) ?_
    refine lv_iconst (v := 1) hx hb dX0_pullBody_10 (by decide) ?_
    refine lv_iadd hx hb dX0_pullBody_11 ?_
    refine lv_iload hx hb dX0_pullBody_12 (lv_at hl 4 rfl) ?_
    refine gVi (u := u) (Wd := (b_W (gI G) hB hT hW hEn hV)) (ok := b_ok) (As := [.ref hV, .int kd, .int (5 : Int32), .int (n + (1 : Int32)), .int dp]) (rest := []) ⟨hx, hb, hml, hown, hts⟩ (c_X0_askAbove l G A hB hT hW hEn hV k dp K hK kd (5 : Int32) (n + (1 : Int32)) u hok) (cwV 5 hts gX0_pullBody_X0_askAbove rfl rfl rfl (by decide +kernel) ⟨by show 4 * k + 5 + 1 ≤ 4 * k + 7; omega, by show 8 + (6 + 11) + (120 * k + 86) ≤ 120 * k + 135; omega⟩) hE hP hD hS (va_recv hE.1 hP (ci := 0) (q0 := 0) rfl rfl) rfl hl.1 rfl (Nat.le_of_ble_eq_true rfl) dX0_pullBody_14 ⟨Nat.zero_le _, Nat.zero_le _⟩ (fun q14 H locs e14 hP hD hok hS => ?_)
    exact gRi (u := q14.2) hx hb hr hlk hP hD hok hS (by rw [← hfv, f_X0_pullBody, if_pos c2, ← e14, f_X0_pullBody_k14]) dX0_pullBody_17
set_option maxHeartbeats 4000000 in
set_option maxRecDepth 100000 in
theorem c_X0_pullBody (l : Launch) (G : gC) (A : Nat → Prop) (hB hT hW hEn hV : Nat) (k : Nat) (dp : Int32) (K : Int32 → Int32 → Int32 → BS → Int32 × BS) (hK : ∀ (kd mb n : Int32) (u : BS), b_ok u → CI l yX0_start wsX0_start ({ frames := 4 * k + 4, cells := 0, slots := 0, locals := 120 * k + 60 } : Room) G A (b_W (gI G) hB hT hW hEn hV) b_ok [.ref hB, .ref hV, .int kd, .int mb, .int n, .int (dp + 1)] u (K kd mb n u)) (kd : Int32) (n : Int32) (u : BS) (hok : b_ok u) : CI l yX0_pullBody wsX0_pullBody ({ frames := 4 * k + 7, cells := 0, slots := 0, locals := 120 * k + 135 } : Room) G A (b_W (gI G) hB hT hW hEn hV) b_ok [.ref hB, .ref hV, .int kd, .int n, .int dp] u (f_X0_pullBody K kd n u) := by
  refine Met.ofW (cc := cX0_pullBody) (maxL := 6) (ret := (some .int)) (by decide) rfl ?_
  intro p e s m args below meth c s₁ B hml hv
  obtain ⟨rfl, hE, hP, hD⟩ := hv
  have hl := lv_entry ([.ref hB, .ref hV, .int kd, .int n, .int dp]) (n := 6) (Nat.le_of_ble_eq_true rfl)
  rw [lg_entry_eq]
  generalize (lg_sl ([.ref hB, .ref hV, .int kd, .int n, .int dp]) ++ List.replicate (6 - (lg_sl ([.ref hB, .ref hV, .int kd, .int n, .int dp])).length) Slot.unset).toArray = ls at hl ⊢
  exact c_X0_pullBody_0 l G A hB hT hW hEn hV k dp K hK ⟨⟨B.exec, B.bytes, hml, findClass_of_methodNamed B.named, atoms_spec (ws := wsX0_pullBody) B.pre⟩, B.returns, B.notSynchronized⟩ hE kd n u hP hD hok va_S.rf hl rfl
end
section
-- FerryDecks$Bodies.feeBody
def f_X0_feeBody_k98 (K : Int32 → Int32 → Int32 → BS → Int32 × BS) (q27 : Int32 × BS) (q98 : Int32 × BS) : Int32 × BS :=
  (q27.1 + q98.1, q98.2)
def f_X0_feeBody_k112 (K : Int32 → Int32 → Int32 → BS → Int32 × BS) (q27 : Int32 × BS) (q112 : Int32 × BS) : Int32 × BS :=
  (q27.1 + q112.1, q112.2)
def f_X0_feeBody_k130 (K : Int32 → Int32 → Int32 → BS → Int32 × BS) (q27 : Int32 × BS) (q130 : Int32 × BS) : Int32 × BS :=
  (q27.1 + q130.1, q130.2)
def f_X0_feeBody_k27 (K : Int32 → Int32 → Int32 → BS → Int32 × BS) (kd : Int32) (q27 : Int32 × BS) : Int32 × BS :=
  (if kd = 1 then (if q27.1 - (b_T q27.2 ((3 : Int32) : Int32).toNatClampNeg) < (0 : Int32) then (0 : Int32) else q27.1 - (b_T q27.2 ((3 : Int32) : Int32).toNatClampNeg), q27.2) else (if kd = 3 then (f_X0_feeBody_k98 K q27 (f_X0_askVehicle K (0 : Int32) (0 : Int32) q27.2)) else (if kd = 5 then (f_X0_feeBody_k112 K q27 (f_X0_askAbove K kd (1 : Int32) (0 : Int32) q27.2)) else (if kd = 7 then ((2 : Int32) * q27.1, q27.2) else (f_X0_feeBody_k130 K q27 (f_X0_askVehicle K (2 : Int32) (0 : Int32) q27.2))))))
def f_X0_feeBody (K : Int32 → Int32 → Int32 → BS → Int32 × BS) (kd : Int32) (n : Int32) (u : BS) : Int32 × BS :=
  (if kd = 0 then ((b_T u ((1 : Int32) : Int32).toNatClampNeg) + (n * (b_T u ((2 : Int32) : Int32).toNatClampNeg)), u) else (f_X0_feeBody_k27 K kd (f_X0_askAbove K kd (1 : Int32) n u)))
set_option maxHeartbeats 4000000 in
set_option maxRecDepth 100000 in
theorem c_X0_feeBody_0 {p : Program} {e : Env} {s : State} {m : MethodId} {args : Array Value} {below : List Frame} {meth : Method} {c : Code} (l : Launch) (G : gC) (A : Nat → Prop) (hB hT hW hEn hV : Nat) (k : Nat) (dp : Int32) (K : Int32 → Int32 → Int32 → BS → Int32 × BS) (hK : ∀ (kd mb n : Int32) (u : BS), b_ok u → CI l yX0_start wsX0_start ({ frames := 4 * k + 4, cells := 0, slots := 0, locals := 120 * k + 60 } : Room) G A (b_W (gI G) hB hT hW hEn hV) b_ok [.ref hB, .ref hV, .int kd, .int mb, .int n, .int (dp + 1)] u (K kd mb n u)) (C0 : gX p s m args meth c cX0_feeBody 6 wsX0_feeBody RX0 (some .int)) (hE : gE G A s) (kd : Int32) (n : Int32) (u : BS) {H : Heap} {locs : List Loc} (hP : va_P (gD G) vwCl ((b_W (gI G) hB hT hW hEn hV) u) H) (hD : va_D A ((b_W (gI G) hB hT hW hEn hV) u)) (hok : b_ok u) (hS : va_S A s.heap H locs) {ls : Array Slot} (hl : lv_has ls 6 [(0, .ref hB), (1, .ref hV), (2, .int kd), (3, .int n), (4, .int dp)]) {fv : Int32 × BS} (hfv : f_X0_feeBody K kd n u = fv) : W p l e ({ frames := 4 * k + 7, cells := 0, slots := 0, locals := 120 * k + 135 } : Room) s m args below meth c H locs 0 0 (MQ below (gQi G A (b_W (gI G) hB hT hW hEn hV) b_ok fv) args s 0 0 A) (F0 m 0 ls []) := by
  obtain ⟨⟨hx, hb, hml, hown, hts⟩, hr, hlk⟩ := id C0
  have hok0 := hok
  have k0 := hts (.fieldLink RX0 9 "FerryDecks$Bodies" "terms" "[I") (by decide +kernel)
  have k1 := hts (.methodLink RX0 84 Lib.Math.max.name) (by decide +kernel)
  have k2 := hts (.static Lib.Math.max.name) (by decide +kernel)
  have k3 := hts (.initialized "java/lang/Math") (by decide +kernel)
  have k4 := hts (.code Lib.Math.max.name Lib.Math.max.code 2 (some .int)) (by decide +kernel)
  have iX0 : ∀ w ∈ wsX00, w ∈ wsX0_feeBody := by decide +kernel
  refine lv_iload_n hx hb dX0_feeBody_0 rfl (lv_at hl 2 rfl) ?_
  refine lv_if_ne (tgt := 20) hx hb dX0_feeBody_1 (by decide) (fun c1 => ?_) (fun c1 => ?_)
  · refine lv_aload_n hx hb dX0_feeBody_20 rfl (lv_at hl 0 rfl) ?_
    refine lv_aload_n hx hb dX0_feeBody_21 rfl (lv_at hl 1 rfl) ?_
    refine lv_iload_n hx hb dX0_feeBody_22 rfl (lv_at hl 2 rfl) ?_
    refine lv_iconst (v := 1) hx hb dX0_feeBody_23 (by decide) ?_
    refine lv_iload_n hx hb dX0_feeBody_24 rfl (lv_at hl 3 rfl) ?_
    refine lv_iload hx hb dX0_feeBody_25 (lv_at hl 4 rfl) ?_
    refine gVi (u := u) (Wd := (b_W (gI G) hB hT hW hEn hV)) (ok := b_ok) (As := [.ref hV, .int kd, .int (1 : Int32), .int n, .int dp]) (rest := []) ⟨hx, hb, hml, hown, hts⟩ (c_X0_askAbove l G A hB hT hW hEn hV k dp K hK kd (1 : Int32) n u hok) (cwV 5 hts gX0_feeBody_X0_askAbove rfl rfl rfl (by decide +kernel) ⟨by show 4 * k + 5 + 1 ≤ 4 * k + 7; omega, by show 8 + (6 + 11) + (120 * k + 86) ≤ 120 * k + 135; omega⟩) hE hP hD hS (va_recv hE.1 hP (ci := 0) (q0 := 0) rfl rfl) rfl hl.1 rfl (Nat.le_of_ble_eq_true rfl) dX0_feeBody_27 ⟨Nat.zero_le _, Nat.zero_le _⟩ (fun q27 H locs e27 hP hD hok hS => ?_)
    refine lv_istore (lv' := [(5, .int q27.1), (0, .ref hB), (1, .ref hV), (2, .int kd), (3, .int n), (4, .int dp)]) hx hb dX0_feeBody_30 hl (by decide) rfl (fun ls hl => ?_)
    refine lv_iload_n hx hb dX0_feeBody_32 rfl (lv_at hl 3 rfl) ?_
    by_cases c33_1 : kd = 1
    · refine gTs (off := 43) (tgt := 76) hx hb dX0_feeBody_33 rfl (by rw [c33_1]; decide) (by decide) ?_
      refine lv_iload hx hb dX0_feeBody_76 (lv_at hl 0 rfl) ?_
      refine lv_aload_n hx hb dX0_feeBody_78 rfl (lv_at hl 1 rfl) ?_
      refine va_get (D := gD G) (ci := 0) (v := .ref hT) (C := RX0) (T := TX0) (N := 3) hx hb hts iX0 hown hE.1 hP 0 rfl rfl 0 (by decide) k0 (fun _ h9 => h9) rfl dX0_feeBody_79 ?_
      refine lv_iconst (v := 3) hx hb dX0_feeBody_82 (by decide) ?_
      refine va_iald hx hb hE.1 hP 1 0 rfl rfl (gIn (by decide) (by decide) (by decide)) dX0_feeBody_83 ?_
      refine lv_isub hx hb dX0_feeBody_84 ?_
      refine lv_iconst (v := 0) hx hb dX0_feeBody_85 (by decide) ?_
      refine va_mmax hx hb (by rw [hml]; exact hl.1.symm) hown k1 k2 k3 k4 (by show 1 ≤ 4 * k + 7; omega) (by show _ + 13 ≤ 120 * k + 135; simp only [List.map, List.sum_cons, List.sum_nil, Value.category]; omega) (Nat.zero_le _) (Nat.zero_le _) dX0_feeBody_86 ?_
      exact gRi (u := q27.2) hx hb hr hlk hP hD hok hS (by rw [← hfv, f_X0_feeBody, if_neg c1, ← e27, f_X0_feeBody_k27, if_pos c33_1]) dX0_feeBody_89
    by_cases c33_3 : kd = 3
    · refine gTs (off := 57) (tgt := 90) hx hb dX0_feeBody_33 rfl (by rw [c33_3]; decide) (by decide) ?_
      refine lv_iload hx hb dX0_feeBody_90 (lv_at hl 0 rfl) ?_
      refine lv_aload_n hx hb dX0_feeBody_92 rfl (lv_at hl 1 rfl) ?_
      refine lv_aload_n hx hb dX0_feeBody_93 rfl (lv_at hl 2 rfl) ?_
      refine lv_iconst (v := 0) hx hb dX0_feeBody_94 (by decide) ?_
      refine lv_iconst (v := 0) hx hb dX0_feeBody_95 (by decide) ?_
      refine lv_iload hx hb dX0_feeBody_96 (lv_at hl 5 rfl) ?_
      refine gVi (u := q27.2) (Wd := (b_W (gI G) hB hT hW hEn hV)) (ok := b_ok) (As := [.ref hV, .int (0 : Int32), .int (0 : Int32), .int dp]) (rest := [.int q27.1]) ⟨hx, hb, hml, hown, hts⟩ (c_X0_askVehicle l G A hB hT hW hEn hV k dp K hK (0 : Int32) (0 : Int32) q27.2 hok) (cwV 4 hts gX0_feeBody_X0_askVehicle rfl rfl rfl (by decide +kernel) ⟨by show 4 * k + 5 + 1 ≤ 4 * k + 7; omega, by show 8 + (5 + 11) + (120 * k + 86) ≤ 120 * k + 135; omega⟩) hE hP hD hS (va_recv hE.1 hP (ci := 0) (q0 := 0) rfl rfl) rfl hl.1 rfl (Nat.le_of_ble_eq_true rfl) dX0_feeBody_98 ⟨Nat.zero_le _, Nat.zero_le _⟩ (fun q98 H locs e98 hP hD hok hS => ?_)
      refine lv_iadd hx hb dX0_feeBody_101 ?_
      exact gRi (u := q98.2) hx hb hr hlk hP hD hok hS (by rw [← hfv, f_X0_feeBody, if_neg c1, ← e27, f_X0_feeBody_k27, if_neg c33_1, if_pos c33_3, ← e98, f_X0_feeBody_k98]) dX0_feeBody_102
    by_cases c33_5 : kd = 5
    · refine gTs (off := 70) (tgt := 103) hx hb dX0_feeBody_33 rfl (by rw [c33_5]; decide) (by decide) ?_
      refine lv_iload hx hb dX0_feeBody_103 (lv_at hl 0 rfl) ?_
      refine lv_aload_n hx hb dX0_feeBody_105 rfl (lv_at hl 1 rfl) ?_
      refine lv_aload_n hx hb dX0_feeBody_106 rfl (lv_at hl 2 rfl) ?_
      refine lv_iload_n hx hb dX0_feeBody_107 rfl (lv_at hl 3 rfl) ?_
      refine lv_iconst (v := 1) hx hb dX0_feeBody_108 (by decide) ?_
      refine lv_iconst (v := 0) hx hb dX0_feeBody_109 (by decide) ?_
      refine lv_iload hx hb dX0_feeBody_110 (lv_at hl 5 rfl) ?_
      refine gVi (u := q27.2) (Wd := (b_W (gI G) hB hT hW hEn hV)) (ok := b_ok) (As := [.ref hV, .int kd, .int (1 : Int32), .int (0 : Int32), .int dp]) (rest := [.int q27.1]) ⟨hx, hb, hml, hown, hts⟩ (c_X0_askAbove l G A hB hT hW hEn hV k dp K hK kd (1 : Int32) (0 : Int32) q27.2 hok) (cwV 5 hts gX0_feeBody_X0_askAbove rfl rfl rfl (by decide +kernel) ⟨by show 4 * k + 5 + 1 ≤ 4 * k + 7; omega, by show 8 + (6 + 11) + (120 * k + 86) ≤ 120 * k + 135; omega⟩) hE hP hD hS (va_recv hE.1 hP (ci := 0) (q0 := 0) rfl rfl) rfl hl.1 rfl (Nat.le_of_ble_eq_true rfl) dX0_feeBody_112 ⟨Nat.zero_le _, Nat.zero_le _⟩ (fun q112 H locs e112 hP hD hok hS => ?_)
      refine lv_iadd hx hb dX0_feeBody_115 ?_
      exact gRi (u := q112.2) hx hb hr hlk hP hD hok hS (by rw [← hfv, f_X0_feeBody, if_neg c1, ← e27, f_X0_feeBody_k27, if_neg c33_1, if_neg c33_3, if_pos c33_5, ← e112, f_X0_feeBody_k112]) dX0_feeBody_116
    by_cases c33_7 : kd = 7
    · refine gTs (off := 84) (tgt := 117) hx hb dX0_feeBody_33 rfl (by rw [c33_7]; decide) (by decide) ?_
      refine lv_iconst (v := 2) hx hb dX0_feeBody_117 (by decide) ?_
      refine lv_iload hx hb dX0_feeBody_118 (lv_at hl 0 rfl) ?_
      refine lv_imul hx hb dX0_feeBody_120 ?_
      exact gRi (u := q27.2) hx hb hr hlk hP hD hok hS (by rw [← hfv, f_X0_feeBody, if_neg c1, ← e27, f_X0_feeBody_k27, if_neg c33_1, if_neg c33_3, if_neg c33_5, if_pos c33_7]) dX0_feeBody_121
    refine gTs (off := 89) (tgt := 122) hx hb dX0_feeBody_33 rfl (by have z1 := lv_neT (a := 1) c33_1 (by decide); have z3 := lv_neT (a := 3) c33_3 (by decide); have z5 := lv_neT (a := 5) c33_5 (by decide); have z7 := lv_neT (a := 7) c33_7 (by decide); unfold tsO; by_cases hh : kd.toInt < 1 ∨ 7 < kd.toInt; (rw [if_pos hh]); (rw [if_neg hh]; rcases (show kd.toInt = 2 ∨ kd.toInt = 4 ∨ kd.toInt = 6 by omega) with h | h | h <;> rw [h] <;> rfl)) (by decide) ?_
    refine lv_iload hx hb dX0_feeBody_122 (lv_at hl 0 rfl) ?_
    refine lv_aload_n hx hb dX0_feeBody_124 rfl (lv_at hl 1 rfl) ?_
    refine lv_aload_n hx hb dX0_feeBody_125 rfl (lv_at hl 2 rfl) ?_
    refine lv_iconst (v := 2) hx hb dX0_feeBody_126 (by decide) ?_
    refine lv_iconst (v := 0) hx hb dX0_feeBody_127 (by decide) ?_
    refine lv_iload hx hb dX0_feeBody_128 (lv_at hl 5 rfl) ?_
    refine gVi (u := q27.2) (Wd := (b_W (gI G) hB hT hW hEn hV)) (ok := b_ok) (As := [.ref hV, .int (2 : Int32), .int (0 : Int32), .int dp]) (rest := [.int q27.1]) ⟨hx, hb, hml, hown, hts⟩ (c_X0_askVehicle l G A hB hT hW hEn hV k dp K hK (2 : Int32) (0 : Int32) q27.2 hok) (cwV 4 hts gX0_feeBody_X0_askVehicle rfl rfl rfl (by decide +kernel) ⟨by show 4 * k + 5 + 1 ≤ 4 * k + 7; omega, by show 8 + (5 + 11) + (120 * k + 86) ≤ 120 * k + 135; omega⟩) hE hP hD hS (va_recv hE.1 hP (ci := 0) (q0 := 0) rfl rfl) rfl hl.1 rfl (Nat.le_of_ble_eq_true rfl) dX0_feeBody_130 ⟨Nat.zero_le _, Nat.zero_le _⟩ (fun q130 H locs e130 hP hD hok hS => ?_)
    refine lv_iadd hx hb dX0_feeBody_133 ?_
    exact gRi (u := q130.2) hx hb hr hlk hP hD hok hS (by rw [← hfv, f_X0_feeBody, if_neg c1, ← e27, f_X0_feeBody_k27, if_neg c33_1, if_neg c33_3, if_neg c33_5, if_neg c33_7, ← e130, f_X0_feeBody_k130]) dX0_feeBody_134
  · refine lv_aload_n hx hb dX0_feeBody_4 rfl (lv_at hl 0 rfl) ?_
    refine va_get (D := gD G) (ci := 0) (v := .ref hT) (C := RX0) (T := TX0) (N := 3) hx hb hts iX0 hown hE.1 hP 0 rfl rfl 0 (by decide) k0 (fun _ h9 => h9) rfl dX0_feeBody_5 ?_
    refine lv_iconst (v := 1) hx hb dX0_feeBody_8 (by decide) ?_
    refine va_iald hx hb hE.1 hP 1 0 rfl rfl (gIn (by decide) (by decide) (by decide)) dX0_feeBody_9 ?_
    refine lv_iload_n hx hb dX0_feeBody_10 rfl (lv_at hl 3 rfl) ?_
    refine lv_aload_n hx hb dX0_feeBody_11 rfl (lv_at hl 0 rfl) ?_
    refine va_get (D := gD G) (ci := 0) (v := .ref hT) (C := RX0) (T := TX0) (N := 3) hx hb hts iX0 hown hE.1 hP 0 rfl rfl 0 (by decide) k0 (fun _ h9 => h9) rfl dX0_feeBody_12 ?_
    refine lv_iconst (v := 2) hx hb dX0_feeBody_15 (by decide) ?_
    refine va_iald hx hb hE.1 hP 1 0 rfl rfl (gIn (by decide) (by decide) (by decide)) dX0_feeBody_16 ?_
    refine lv_imul hx hb dX0_feeBody_17 ?_
    refine lv_iadd hx hb dX0_feeBody_18 ?_
    exact gRi (u := u) hx hb hr hlk hP hD hok hS (by rw [← hfv, f_X0_feeBody, if_pos c1]) dX0_feeBody_19
set_option maxHeartbeats 4000000 in
set_option maxRecDepth 100000 in
theorem c_X0_feeBody (l : Launch) (G : gC) (A : Nat → Prop) (hB hT hW hEn hV : Nat) (k : Nat) (dp : Int32) (K : Int32 → Int32 → Int32 → BS → Int32 × BS) (hK : ∀ (kd mb n : Int32) (u : BS), b_ok u → CI l yX0_start wsX0_start ({ frames := 4 * k + 4, cells := 0, slots := 0, locals := 120 * k + 60 } : Room) G A (b_W (gI G) hB hT hW hEn hV) b_ok [.ref hB, .ref hV, .int kd, .int mb, .int n, .int (dp + 1)] u (K kd mb n u)) (kd : Int32) (n : Int32) (u : BS) (hok : b_ok u) : CI l yX0_feeBody wsX0_feeBody ({ frames := 4 * k + 7, cells := 0, slots := 0, locals := 120 * k + 135 } : Room) G A (b_W (gI G) hB hT hW hEn hV) b_ok [.ref hB, .ref hV, .int kd, .int n, .int dp] u (f_X0_feeBody K kd n u) := by
  refine Met.ofW (cc := cX0_feeBody) (maxL := 6) (ret := (some .int)) (by decide) rfl ?_
  intro p e s m args below meth c s₁ B hml hv
  obtain ⟨rfl, hE, hP, hD⟩ := hv
  have hl := lv_entry ([.ref hB, .ref hV, .int kd, .int n, .int dp]) (n := 6) (Nat.le_of_ble_eq_true rfl)
  rw [lg_entry_eq]
  generalize (lg_sl ([.ref hB, .ref hV, .int kd, .int n, .int dp]) ++ List.replicate (6 - (lg_sl ([.ref hB, .ref hV, .int kd, .int n, .int dp])).length) Slot.unset).toArray = ls at hl ⊢
  exact c_X0_feeBody_0 l G A hB hT hW hEn hV k dp K hK ⟨⟨B.exec, B.bytes, hml, findClass_of_methodNamed B.named, atoms_spec (ws := wsX0_feeBody) B.pre⟩, B.returns, B.notSynchronized⟩ hE kd n u hP hD hok va_S.rf hl rfl

-- FerryDecks$Bodies.riskBody
def f_X0_riskBody_k106 (K : Int32 → Int32 → Int32 → BS → Int32 × BS) (q63 : Int32 × BS) (q106 : Int32 × BS) : Int32 × BS :=
  (if q106.1 = 0 then (q63.1, q106.2) else ((20 : Int32), q106.2))
def f_X0_riskBody_k136 (K : Int32 → Int32 → Int32 → BS → Int32 × BS) (q136 : Int32 × BS) : Int32 × BS :=
  (q136.1, q136.2)
def f_X0_riskBody_k121 (K : Int32 → Int32 → Int32 → BS → Int32 × BS) (q63 : Int32 × BS) (q121 : Int32 × BS) : Int32 × BS :=
  (if q121.1 = 0 then (if (q63.1 - q63.1 / (2 : Int32) * (2 : Int32)) = 0 then (q63.1, q121.2) else (f_X0_riskBody_k136 K (f_X0_fail (3 : Int32) q121.2))) else (q63.1, q121.2))
def f_X0_riskBody_k147 (K : Int32 → Int32 → Int32 → BS → Int32 × BS) (q63 : Int32 × BS) (q147 : Int32 × BS) : Int32 × BS :=
  (if q147.1 = 0 then (q63.1, q147.2) else ((50 : Int32), q147.2))
def f_X0_riskBody_k63 (K : Int32 → Int32 → Int32 → BS → Int32 × BS) (x2 : Int32) (q63 : Int32 × BS) : Int32 × BS :=
  (if x2 = 4 then (f_X0_riskBody_k106 K q63 (f_X0_takes (1 : Int32) q63.2)) else (if x2 = 8 then (f_X0_riskBody_k121 K q63 (f_X0_failed q63.2)) else (if x2 = 9 then (f_X0_riskBody_k147 K q63 (f_X0_takes (3 : Int32) q63.2)) else (q63.1, q63.2))))
def f_X0_riskBody_61 (K : Int32 → Int32 → Int32 → BS → Int32 × BS) (x2 : Int32) (s0 : Int32) (s1 : Int32) (s2 : Int32) (u : BS) : Int32 × BS :=
  (f_X0_riskBody_k63 K x2 (f_X0_askAbove K s2 s1 s0 u))
def f_X0_riskBody_45 (K : Int32 → Int32 → Int32 → BS → Int32 × BS) (x2 : Int32) (x3 : Int32) (u : BS) : Int32 × BS :=
  (if x2 = (2 : Int32) then f_X0_riskBody_61 K x2 (x3 + (2 : Int32)) (2 : Int32) x2 u else f_X0_riskBody_61 K x2 x3 (2 : Int32) x2 u)
def f_X0_riskBody_k41 (K : Int32 → Int32 → Int32 → BS → Int32 × BS) (q41 : Int32 × BS) : Int32 × BS :=
  (q41.1, q41.2)
def f_X0_riskBody_k12 (K : Int32 → Int32 → Int32 → BS → Int32 × BS) (q12 : Int32 × BS) : Int32 × BS :=
  (q12.1, q12.2)
def f_X0_riskBody (K : Int32 → Int32 → Int32 → BS → Int32 × BS) (kd : Int32) (n : Int32) (u : BS) : Int32 × BS :=
  (if kd = 0 then (if n ≤ (9 : Int32) then (n, u) else (f_X0_riskBody_k12 K (f_X0_fail (1 : Int32) u))) else (if kd = (6 : Int32) then (if (b_ld u) ≤ (b_T u ((4 : Int32) : Int32).toNatClampNeg) then f_X0_riskBody_45 K kd n u else (f_X0_riskBody_k41 K (f_X0_fail (2 : Int32) u))) else f_X0_riskBody_45 K kd n u))
set_option maxHeartbeats 4000000 in
set_option maxRecDepth 100000 in
theorem c_X0_riskBody_61 {p : Program} {e : Env} {s : State} {m : MethodId} {args : Array Value} {below : List Frame} {meth : Method} {c : Code} (l : Launch) (G : gC) (A : Nat → Prop) (hB hT hW hEn hV : Nat) (k : Nat) (dp : Int32) (K : Int32 → Int32 → Int32 → BS → Int32 × BS) (hK : ∀ (kd mb n : Int32) (u : BS), b_ok u → CI l yX0_start wsX0_start ({ frames := 4 * k + 4, cells := 0, slots := 0, locals := 120 * k + 60 } : Room) G A (b_W (gI G) hB hT hW hEn hV) b_ok [.ref hB, .ref hV, .int kd, .int mb, .int n, .int (dp + 1)] u (K kd mb n u)) (C0 : gX p s m args meth c cX0_riskBody 6 wsX0_riskBody RX0 (some .int)) (hE : gE G A s) (x2 : Int32) (s0 : Int32) (s1 : Int32) (s2 : Int32) (u : BS) {H : Heap} {locs : List Loc} (hP : va_P (gD G) vwCl ((b_W (gI G) hB hT hW hEn hV) u) H) (hD : va_D A ((b_W (gI G) hB hT hW hEn hV) u)) (hok : b_ok u) (hS : va_S A s.heap H locs) {ls : Array Slot} (hl : lv_has ls 6 [(0, .ref hB), (2, .int x2), (4, .int dp)]) {fv : Int32 × BS} (hfv : f_X0_riskBody_61 K x2 s0 s1 s2 u = fv) : W p l e ({ frames := 4 * k + 7, cells := 0, slots := 0, locals := 120 * k + 135 } : Room) s m args below meth c H locs 0 0 (MQ below (gQi G A (b_W (gI G) hB hT hW hEn hV) b_ok fv) args s 0 0 A) (F0 m 61 ls [.int s0, .int s1, .int s2, .ref hV, .ref hB]) := by
  obtain ⟨⟨hx, hb, hml, hown, hts⟩, hr, hlk⟩ := id C0
  have hok0 := hok
  refine lv_iload hx hb dX0_riskBody_61 (lv_at hl 2 rfl) ?_
  refine gVi (u := u) (Wd := (b_W (gI G) hB hT hW hEn hV)) (ok := b_ok) (As := [.ref hV, .int s2, .int s1, .int s0, .int dp]) (rest := []) ⟨hx, hb, hml, hown, hts⟩ (c_X0_askAbove l G A hB hT hW hEn hV k dp K hK s2 s1 s0 u hok) (cwV 5 hts gX0_riskBody_X0_askAbove rfl rfl rfl (by decide +kernel) ⟨by show 4 * k + 5 + 1 ≤ 4 * k + 7; omega, by show 8 + (6 + 11) + (120 * k + 86) ≤ 120 * k + 135; omega⟩) hE hP hD hS (va_recv hE.1 hP (ci := 0) (q0 := 0) rfl rfl) rfl hl.1 rfl (Nat.le_of_ble_eq_true rfl) dX0_riskBody_63 ⟨Nat.zero_le _, Nat.zero_le _⟩ (fun q63 H locs e63 hP hD hok hS => ?_)
  refine lv_istore (lv' := [(5, .int q63.1), (0, .ref hB), (2, .int x2), (4, .int dp)]) hx hb dX0_riskBody_66 hl (by decide) rfl (fun ls hl => ?_)
  refine lv_iload_n hx hb dX0_riskBody_68 rfl (lv_at hl 2 rfl) ?_
  by_cases c69_4 : x2 = 4
  · refine lv_lookup (off := 35) (tgt := 104) hx hb dX0_riskBody_69 (by decide) (by rw [c69_4]; decide) (by decide) ?_
    refine lv_aload_n hx hb dX0_riskBody_104 rfl (lv_at hl 1 rfl) ?_
    refine lv_iconst (v := 1) hx hb dX0_riskBody_105 (by decide) ?_
    refine gVi (u := q63.2) (Wd := (b_W (gI G) hB hT hW hEn hV)) (ok := b_ok) (As := [.int (1 : Int32)]) (rest := []) ⟨hx, hb, hml, hown, hts⟩ (c_X0_takes l G A hB hT hW hEn hV (1 : Int32) q63.2 hok) (cwV 1 hts gX0_riskBody_X0_takes rfl rfl rfl (by decide +kernel) ⟨by show 0 + 1 ≤ 4 * k + 7; omega, by show 8 + (2 + 11) + 0 ≤ 120 * k + 135; omega⟩) hE hP hD hS (va_recv hE.1 hP (ci := 0) (q0 := 0) rfl rfl) rfl hl.1 rfl (Nat.le_of_ble_eq_true rfl) dX0_riskBody_106 ⟨Nat.zero_le _, Nat.zero_le _⟩ (fun q106 H locs e106 hP hD hok hS => ?_)
    refine lv_if_eq (tgt := 117) hx hb dX0_riskBody_109 (by decide) (fun c109 => ?_) (fun c109 => ?_)
    · refine lv_iload hx hb dX0_riskBody_117 (lv_at hl 0 rfl) ?_
      exact gRi (u := q106.2) hx hb hr hlk hP hD hok hS (by rw [← hfv, f_X0_riskBody_61, ← e63, f_X0_riskBody_k63, if_pos c69_4, ← e106, f_X0_riskBody_k106, if_pos c109]) dX0_riskBody_119
    · refine lv_bipush (v := 20) hx hb dX0_riskBody_112 (by decide) ?_
      refine lv_goto (tgt := 119) hx hb dX0_riskBody_114 (by decide) ?_
      exact gRi (u := q106.2) hx hb hr hlk hP hD hok hS (by rw [← hfv, f_X0_riskBody_61, ← e63, f_X0_riskBody_k63, if_pos c69_4, ← e106, f_X0_riskBody_k106, if_neg c109]) dX0_riskBody_119
  by_cases c69_8 : x2 = 8
  · refine lv_lookup (off := 51) (tgt := 120) hx hb dX0_riskBody_69 (by decide) (by rw [c69_8]; decide) (by decide) ?_
    refine lv_aload_n hx hb dX0_riskBody_120 rfl (lv_at hl 1 rfl) ?_
    refine gVi (u := q63.2) (Wd := (b_W (gI G) hB hT hW hEn hV)) (ok := b_ok) (As := []) (rest := []) ⟨hx, hb, hml, hown, hts⟩ (c_X0_failed l G A hB hT hW hEn hV q63.2 hok) (cwV 0 hts gX0_riskBody_X0_failed rfl rfl rfl (by decide +kernel) ⟨by show 0 + 1 ≤ 4 * k + 7; omega, by show 8 + (1 + 11) + 0 ≤ 120 * k + 135; omega⟩) hE hP hD hS (va_recv hE.1 hP (ci := 0) (q0 := 0) rfl rfl) rfl hl.1 rfl (Nat.le_of_ble_eq_true rfl) dX0_riskBody_121 ⟨Nat.zero_le _, Nat.zero_le _⟩ (fun q121 H locs e121 hP hD hok hS => ?_)
    refine lv_if_ne (tgt := 142) hx hb dX0_riskBody_124 (by decide) (fun c124 => ?_) (fun c124 => ?_)
    · refine lv_iload hx hb dX0_riskBody_142 (lv_at hl 0 rfl) ?_
      exact gRi (u := q121.2) hx hb hr hlk hP hD hok hS (by rw [← hfv, f_X0_riskBody_61, ← e63, f_X0_riskBody_k63, if_neg c69_4, if_pos c69_8, ← e121, f_X0_riskBody_k121, if_neg c124]) dX0_riskBody_144
    · refine lv_iload hx hb dX0_riskBody_127 (lv_at hl 0 rfl) ?_
      refine lv_iconst (v := 2) hx hb dX0_riskBody_129 (by decide) ?_
      refine lv_irem hx hb dX0_riskBody_130 (by decide) ?_
      refine lv_if_eq (tgt := 142) hx hb dX0_riskBody_131 (by decide) (fun c131 => ?_) (fun c131 => ?_)
      · refine lv_iload hx hb dX0_riskBody_142 (lv_at hl 0 rfl) ?_
        exact gRi (u := q121.2) hx hb hr hlk hP hD hok hS (by rw [← hfv, f_X0_riskBody_61, ← e63, f_X0_riskBody_k63, if_neg c69_4, if_pos c69_8, ← e121, f_X0_riskBody_k121, if_pos c124, if_pos c131]) dX0_riskBody_144
      · refine lv_aload_n hx hb dX0_riskBody_134 rfl (lv_at hl 1 rfl) ?_
        refine lv_iconst (v := 3) hx hb dX0_riskBody_135 (by decide) ?_
        refine gVi (u := q121.2) (Wd := (b_W (gI G) hB hT hW hEn hV)) (ok := b_ok) (As := [.int (3 : Int32)]) (rest := []) ⟨hx, hb, hml, hown, hts⟩ (c_X0_fail l G A hB hT hW hEn hV (3 : Int32) q121.2 hok) (cwV 1 hts gX0_riskBody_X0_fail rfl rfl rfl (by decide +kernel) ⟨by show 0 + 1 ≤ 4 * k + 7; omega, by show 8 + (2 + 11) + 0 ≤ 120 * k + 135; omega⟩) hE hP hD hS (va_recv hE.1 hP (ci := 0) (q0 := 0) rfl rfl) rfl hl.1 rfl (Nat.le_of_ble_eq_true rfl) dX0_riskBody_136 ⟨Nat.zero_le _, Nat.zero_le _⟩ (fun q136 H locs e136 hP hD hok hS => ?_)
        refine lv_goto (tgt := 144) hx hb dX0_riskBody_139 (by decide) ?_
        exact gRi (u := q136.2) hx hb hr hlk hP hD hok hS (by rw [← hfv, f_X0_riskBody_61, ← e63, f_X0_riskBody_k63, if_neg c69_4, if_pos c69_8, ← e121, f_X0_riskBody_k121, if_pos c124, if_neg c131, ← e136, f_X0_riskBody_k136]) dX0_riskBody_144
  by_cases c69_9 : x2 = 9
  · refine lv_lookup (off := 76) (tgt := 145) hx hb dX0_riskBody_69 (by decide) (by rw [c69_9]; decide) (by decide) ?_
    refine lv_aload_n hx hb dX0_riskBody_145 rfl (lv_at hl 1 rfl) ?_
    refine lv_iconst (v := 3) hx hb dX0_riskBody_146 (by decide) ?_
    refine gVi (u := q63.2) (Wd := (b_W (gI G) hB hT hW hEn hV)) (ok := b_ok) (As := [.int (3 : Int32)]) (rest := []) ⟨hx, hb, hml, hown, hts⟩ (c_X0_takes l G A hB hT hW hEn hV (3 : Int32) q63.2 hok) (cwV 1 hts gX0_riskBody_X0_takes rfl rfl rfl (by decide +kernel) ⟨by show 0 + 1 ≤ 4 * k + 7; omega, by show 8 + (2 + 11) + 0 ≤ 120 * k + 135; omega⟩) hE hP hD hS (va_recv hE.1 hP (ci := 0) (q0 := 0) rfl rfl) rfl hl.1 rfl (Nat.le_of_ble_eq_true rfl) dX0_riskBody_147 ⟨Nat.zero_le _, Nat.zero_le _⟩ (fun q147 H locs e147 hP hD hok hS => ?_)
    refine lv_if_eq (tgt := 158) hx hb dX0_riskBody_150 (by decide) (fun c150 => ?_) (fun c150 => ?_)
    · refine lv_iload hx hb dX0_riskBody_158 (lv_at hl 0 rfl) ?_
      exact gRi (u := q147.2) hx hb hr hlk hP hD hok hS (by rw [← hfv, f_X0_riskBody_61, ← e63, f_X0_riskBody_k63, if_neg c69_4, if_neg c69_8, if_pos c69_9, ← e147, f_X0_riskBody_k147, if_pos c150]) dX0_riskBody_160
    · refine lv_bipush (v := 50) hx hb dX0_riskBody_153 (by decide) ?_
      refine lv_goto (tgt := 160) hx hb dX0_riskBody_155 (by decide) ?_
      exact gRi (u := q147.2) hx hb hr hlk hP hD hok hS (by rw [← hfv, f_X0_riskBody_61, ← e63, f_X0_riskBody_k63, if_neg c69_4, if_neg c69_8, if_pos c69_9, ← e147, f_X0_riskBody_k147, if_neg c150]) dX0_riskBody_160
  refine lv_lookup (off := 92) (tgt := 161) hx hb dX0_riskBody_69 (by decide) (by show Op.lookupswitch.offset [(4, 35), (8, 51), (9, 76)] 92 x2.toInt = 92; rw [lv_osw (a := 4) c69_4 (by decide), lv_osw (a := 8) c69_8 (by decide), lv_osw (a := 9) c69_9 (by decide)]; rfl) (by decide) ?_
  refine lv_iload hx hb dX0_riskBody_161 (lv_at hl 0 rfl) ?_
  exact gRi (u := q63.2) hx hb hr hlk hP hD hok hS (by rw [← hfv, f_X0_riskBody_61, ← e63, f_X0_riskBody_k63, if_neg c69_4, if_neg c69_8, if_neg c69_9]) dX0_riskBody_163
set_option maxHeartbeats 4000000 in
set_option maxRecDepth 100000 in
theorem c_X0_riskBody_45 {p : Program} {e : Env} {s : State} {m : MethodId} {args : Array Value} {below : List Frame} {meth : Method} {c : Code} (l : Launch) (G : gC) (A : Nat → Prop) (hB hT hW hEn hV : Nat) (k : Nat) (dp : Int32) (K : Int32 → Int32 → Int32 → BS → Int32 × BS) (hK : ∀ (kd mb n : Int32) (u : BS), b_ok u → CI l yX0_start wsX0_start ({ frames := 4 * k + 4, cells := 0, slots := 0, locals := 120 * k + 60 } : Room) G A (b_W (gI G) hB hT hW hEn hV) b_ok [.ref hB, .ref hV, .int kd, .int mb, .int n, .int (dp + 1)] u (K kd mb n u)) (C0 : gX p s m args meth c cX0_riskBody 6 wsX0_riskBody RX0 (some .int)) (hE : gE G A s) (x2 : Int32) (x3 : Int32) (u : BS) {H : Heap} {locs : List Loc} (hP : va_P (gD G) vwCl ((b_W (gI G) hB hT hW hEn hV) u) H) (hD : va_D A ((b_W (gI G) hB hT hW hEn hV) u)) (hok : b_ok u) (hS : va_S A s.heap H locs) {ls : Array Slot} (hl : lv_has ls 6 [(0, .ref hB), (1, .ref hV), (2, .int x2), (3, .int x3), (4, .int dp)]) {fv : Int32 × BS} (hfv : f_X0_riskBody_45 K x2 x3 u = fv) : W p l e ({ frames := 4 * k + 7, cells := 0, slots := 0, locals := 120 * k + 135 } : Room) s m args below meth c H locs 0 0 (MQ below (gQi G A (b_W (gI G) hB hT hW hEn hV) b_ok fv) args s 0 0 A) (F0 m 45 ls []) := by
  obtain ⟨⟨hx, hb, hml, hown, hts⟩, hr, hlk⟩ := id C0
  have hok0 := hok
  refine lv_aload_n hx hb dX0_riskBody_45 rfl (lv_at hl 0 rfl) ?_
  refine lv_aload_n hx hb dX0_riskBody_46 rfl (lv_at hl 1 rfl) ?_
  refine lv_iload_n hx hb dX0_riskBody_47 rfl (lv_at hl 2 rfl) ?_
  refine lv_iconst (v := 2) hx hb dX0_riskBody_48 (by decide) ?_
  refine lv_iload_n hx hb dX0_riskBody_49 rfl (lv_at hl 2 rfl) ?_
  refine lv_iconst (v := 2) hx hb dX0_riskBody_50 (by decide) ?_
  refine lv_icmp_ne (tgt := 60) hx hb dX0_riskBody_51 (by decide) (fun c51 => ?_) (fun c51 => ?_)
  · refine lv_iload_n hx hb dX0_riskBody_60 rfl (lv_at hl 3 rfl) ?_
    exact c_X0_riskBody_61 l G A hB hT hW hEn hV k dp K hK C0 hE x2 x3 (2 : Int32) x2 u hP hD hok hS (lv_sub hl [0, 2, 4] rfl) (by rw [← hfv, f_X0_riskBody_45, if_neg c51])
  · refine lv_iload_n hx hb dX0_riskBody_54 rfl (lv_at hl 3 rfl) ?_
    refine lv_iconst (v := 2) hx hb dX0_riskBody_55 (by decide) ?_
    refine lv_iadd hx hb dX0_riskBody_56 ?_
    refine lv_goto (tgt := 61) hx hb dX0_riskBody_57 (by decide) ?_
    exact c_X0_riskBody_61 l G A hB hT hW hEn hV k dp K hK C0 hE x2 (x3 + (2 : Int32)) (2 : Int32) x2 u hP hD hok hS (lv_sub hl [0, 2, 4] rfl) (by rw [← hfv, f_X0_riskBody_45, if_pos c51])
set_option maxHeartbeats 4000000 in
set_option maxRecDepth 100000 in
theorem c_X0_riskBody_0 {p : Program} {e : Env} {s : State} {m : MethodId} {args : Array Value} {below : List Frame} {meth : Method} {c : Code} (l : Launch) (G : gC) (A : Nat → Prop) (hB hT hW hEn hV : Nat) (k : Nat) (dp : Int32) (K : Int32 → Int32 → Int32 → BS → Int32 × BS) (hK : ∀ (kd mb n : Int32) (u : BS), b_ok u → CI l yX0_start wsX0_start ({ frames := 4 * k + 4, cells := 0, slots := 0, locals := 120 * k + 60 } : Room) G A (b_W (gI G) hB hT hW hEn hV) b_ok [.ref hB, .ref hV, .int kd, .int mb, .int n, .int (dp + 1)] u (K kd mb n u)) (C0 : gX p s m args meth c cX0_riskBody 6 wsX0_riskBody RX0 (some .int)) (hE : gE G A s) (kd : Int32) (n : Int32) (u : BS) {H : Heap} {locs : List Loc} (hP : va_P (gD G) vwCl ((b_W (gI G) hB hT hW hEn hV) u) H) (hD : va_D A ((b_W (gI G) hB hT hW hEn hV) u)) (hok : b_ok u) (hS : va_S A s.heap H locs) {ls : Array Slot} (hl : lv_has ls 6 [(0, .ref hB), (1, .ref hV), (2, .int kd), (3, .int n), (4, .int dp)]) {fv : Int32 × BS} (hfv : f_X0_riskBody K kd n u = fv) : W p l e ({ frames := 4 * k + 7, cells := 0, slots := 0, locals := 120 * k + 135 } : Room) s m args below meth c H locs 0 0 (MQ below (gQi G A (b_W (gI G) hB hT hW hEn hV) b_ok fv) args s 0 0 A) (F0 m 0 ls []) := by
  obtain ⟨⟨hx, hb, hml, hown, hts⟩, hr, hlk⟩ := id C0
  have hok0 := hok
  have k0 := hts (.fieldLink RX0 96 "FerryDecks$Vehicle" "load" "I") (by decide +kernel)
  have k1 := hts (.fieldLink RX0 9 "FerryDecks$Bodies" "terms" "[I") (by decide +kernel)
  have iX0 : ∀ w ∈ wsX00, w ∈ wsX0_riskBody := by decide +kernel
  have iX3 : ∀ w ∈ wsX30, w ∈ wsX0_riskBody := by decide +kernel
  refine lv_iload_n hx hb dX0_riskBody_0 rfl (lv_at hl 2 rfl) ?_
  refine lv_if_ne (tgt := 20) hx hb dX0_riskBody_1 (by decide) (fun c1 => ?_) (fun c1 => ?_)
  · refine lv_iload_n hx hb dX0_riskBody_20 rfl (lv_at hl 2 rfl) ?_
    refine lv_bipush (v := 6) hx hb dX0_riskBody_21 (by decide) ?_
    refine lv_icmp_ne (tgt := 45) hx hb dX0_riskBody_23 (by decide) (fun c23 => ?_) (fun c23 => ?_)
    · exact c_X0_riskBody_45 l G A hB hT hW hEn hV k dp K hK C0 hE kd n u hP hD hok hS (lv_sub hl [0, 1, 2, 3, 4] rfl) (by rw [← hfv, f_X0_riskBody, if_neg c1, if_neg c23])
    · refine lv_aload_n hx hb dX0_riskBody_26 rfl (lv_at hl 1 rfl) ?_
      refine va_get (D := gD G) (ci := 3) (v := .int (b_ld u)) (C := RX3) (T := TX3) (N := 6) hx hb hts iX3 hown hE.1 hP 4 rfl rfl 2 (by decide) k0 (fun _ h9 => h9) rfl dX0_riskBody_27 ?_
      refine lv_aload_n hx hb dX0_riskBody_30 rfl (lv_at hl 0 rfl) ?_
      refine va_get (D := gD G) (ci := 0) (v := .ref hT) (C := RX0) (T := TX0) (N := 3) hx hb hts iX0 hown hE.1 hP 0 rfl rfl 0 (by decide) k1 (fun _ h9 => h9) rfl dX0_riskBody_31 ?_
      refine lv_iconst (v := 4) hx hb dX0_riskBody_34 (by decide) ?_
      refine va_iald hx hb hE.1 hP 1 0 rfl rfl (gIn (by decide) (by decide) (by decide)) dX0_riskBody_35 ?_
      refine lv_icmp_le (tgt := 45) hx hb dX0_riskBody_36 (by decide) (fun c36 => ?_) (fun c36 => ?_)
      · exact c_X0_riskBody_45 l G A hB hT hW hEn hV k dp K hK C0 hE kd n u hP hD hok hS (lv_sub hl [0, 1, 2, 3, 4] rfl) (by rw [← hfv, f_X0_riskBody, if_neg c1, if_pos c23, if_pos c36])
      · refine lv_aload_n hx hb dX0_riskBody_39 rfl (lv_at hl 0 rfl) ?_
        refine lv_iconst (v := 2) hx hb dX0_riskBody_40 (by decide) ?_
        refine gVi (u := u) (Wd := (b_W (gI G) hB hT hW hEn hV)) (ok := b_ok) (As := [.int (2 : Int32)]) (rest := []) ⟨hx, hb, hml, hown, hts⟩ (c_X0_fail l G A hB hT hW hEn hV (2 : Int32) u hok) (cwV 1 hts gX0_riskBody_X0_fail rfl rfl rfl (by decide +kernel) ⟨by show 0 + 1 ≤ 4 * k + 7; omega, by show 8 + (2 + 11) + 0 ≤ 120 * k + 135; omega⟩) hE hP hD hS (va_recv hE.1 hP (ci := 0) (q0 := 0) rfl rfl) rfl hl.1 rfl (Nat.le_of_ble_eq_true rfl) dX0_riskBody_41 ⟨Nat.zero_le _, Nat.zero_le _⟩ (fun q41 H locs e41 hP hD hok hS => ?_)
        exact gRi (u := q41.2) hx hb hr hlk hP hD hok hS (by rw [← hfv, f_X0_riskBody, if_neg c1, if_pos c23, if_neg c36, ← e41, f_X0_riskBody_k41]) dX0_riskBody_44
  · refine lv_iload_n hx hb dX0_riskBody_4 rfl (lv_at hl 3 rfl) ?_
    refine lv_bipush (v := 9) hx hb dX0_riskBody_5 (by decide) ?_
    refine lv_icmp_le (tgt := 18) hx hb dX0_riskBody_7 (by decide) (fun c7 => ?_) (fun c7 => ?_)
    · refine lv_iload_n hx hb dX0_riskBody_18 rfl (lv_at hl 3 rfl) ?_
      exact gRi (u := u) hx hb hr hlk hP hD hok hS (by rw [← hfv, f_X0_riskBody, if_pos c1, if_pos c7]) dX0_riskBody_19
    · refine lv_aload_n hx hb dX0_riskBody_10 rfl (lv_at hl 0 rfl) ?_
      refine lv_iconst (v := 1) hx hb dX0_riskBody_11 (by decide) ?_
      refine gVi (u := u) (Wd := (b_W (gI G) hB hT hW hEn hV)) (ok := b_ok) (As := [.int (1 : Int32)]) (rest := []) ⟨hx, hb, hml, hown, hts⟩ (c_X0_fail l G A hB hT hW hEn hV (1 : Int32) u hok) (cwV 1 hts gX0_riskBody_X0_fail rfl rfl rfl (by decide +kernel) ⟨by show 0 + 1 ≤ 4 * k + 7; omega, by show 8 + (2 + 11) + 0 ≤ 120 * k + 135; omega⟩) hE hP hD hS (va_recv hE.1 hP (ci := 0) (q0 := 0) rfl rfl) rfl hl.1 rfl (Nat.le_of_ble_eq_true rfl) dX0_riskBody_12 ⟨Nat.zero_le _, Nat.zero_le _⟩ (fun q12 H locs e12 hP hD hok hS => ?_)
      refine lv_goto (tgt := 19) hx hb dX0_riskBody_15 (by decide) ?_
      exact gRi (u := q12.2) hx hb hr hlk hP hD hok hS (by rw [← hfv, f_X0_riskBody, if_pos c1, if_neg c7, ← e12, f_X0_riskBody_k12]) dX0_riskBody_19
set_option maxHeartbeats 4000000 in
set_option maxRecDepth 100000 in
theorem c_X0_riskBody (l : Launch) (G : gC) (A : Nat → Prop) (hB hT hW hEn hV : Nat) (k : Nat) (dp : Int32) (K : Int32 → Int32 → Int32 → BS → Int32 × BS) (hK : ∀ (kd mb n : Int32) (u : BS), b_ok u → CI l yX0_start wsX0_start ({ frames := 4 * k + 4, cells := 0, slots := 0, locals := 120 * k + 60 } : Room) G A (b_W (gI G) hB hT hW hEn hV) b_ok [.ref hB, .ref hV, .int kd, .int mb, .int n, .int (dp + 1)] u (K kd mb n u)) (kd : Int32) (n : Int32) (u : BS) (hok : b_ok u) : CI l yX0_riskBody wsX0_riskBody ({ frames := 4 * k + 7, cells := 0, slots := 0, locals := 120 * k + 135 } : Room) G A (b_W (gI G) hB hT hW hEn hV) b_ok [.ref hB, .ref hV, .int kd, .int n, .int dp] u (f_X0_riskBody K kd n u) := by
  refine Met.ofW (cc := cX0_riskBody) (maxL := 6) (ret := (some .int)) (by decide) rfl ?_
  intro p e s m args below meth c s₁ B hml hv
  obtain ⟨rfl, hE, hP, hD⟩ := hv
  have hl := lv_entry ([.ref hB, .ref hV, .int kd, .int n, .int dp]) (n := 6) (Nat.le_of_ble_eq_true rfl)
  rw [lg_entry_eq]
  generalize (lg_sl ([.ref hB, .ref hV, .int kd, .int n, .int dp]) ++ List.replicate (6 - (lg_sl ([.ref hB, .ref hV, .int kd, .int n, .int dp])).length) Slot.unset).toArray = ls at hl ⊢
  exact c_X0_riskBody_0 l G A hB hT hW hEn hV k dp K hK ⟨⟨B.exec, B.bytes, hml, findClass_of_methodNamed B.named, atoms_spec (ws := wsX0_riskBody) B.pre⟩, B.returns, B.notSynchronized⟩ hE kd n u hP hD hok va_S.rf hl rfl

-- FerryDecks$Bodies.lashBody
def f_X0_lashBody_k85 (K : Int32 → Int32 → Int32 → BS → Int32 × BS) (q85 : Int32 × BS) : Int32 × BS :=
  (q85.1, q85.2)
def f_X0_lashBody_k74 (K : Int32 → Int32 → Int32 → BS → Int32 × BS) (kd : Int32) (q74 : Int32 × BS) : Int32 × BS :=
  (f_X0_lashBody_k85 K (f_X0_askAbove K kd (3 : Int32) (1 : Int32) q74.2))
def f_X0_lashBody_k98 (K : Int32 → Int32 → Int32 → BS → Int32 × BS) (q98 : Int32 × BS) : Int32 × BS :=
  (q98.1, q98.2)
def f_X0_lashBody_k111 (K : Int32 → Int32 → Int32 → BS → Int32 × BS) (q111 : Int32 × BS) : Int32 × BS :=
  (q111.1, q111.2)
def f_X0_lashBody_k143 (K : Int32 → Int32 → Int32 → BS → Int32 × BS) (q143 : Int32 × BS) : Int32 × BS :=
  (q143.1, q143.2)
def f_X0_lashBody_k130 (K : Int32 → Int32 → Int32 → BS → Int32 × BS) (q130 : Int32 × BS) : Int32 × BS :=
  (q130.1, q130.2)
def f_X0_lashBody_k152 (K : Int32 → Int32 → Int32 → BS → Int32 × BS) (q152 : Int32 × BS) : Int32 × BS :=
  (q152.1, q152.2)
def f_X0_lashBody (K : Int32 → Int32 → Int32 → BS → Int32 × BS) (kd : Int32) (n : Int32) (u : BS) : Int32 × BS :=
  (if kd = 0 then (b_ch (b_sCh u ((b_ch u) + n)), b_sCh u ((b_ch u) + n)) else (if kd = 2 then (f_X0_lashBody_k74 K kd (f_X0_askAbove K kd (3 : Int32) n u)) else (if kd = 4 then (f_X0_lashBody_k98 K (f_X0_askAbove K kd (3 : Int32) (n / (2 : Int32)) u)) else (if kd = 7 then (f_X0_lashBody_k111 K (f_X0_askAbove K kd (3 : Int32) (n + n) u)) else (if kd = 8 then (if (b_ch u) ≤ (b_T u ((5 : Int32) : Int32).toNatClampNeg) then (f_X0_lashBody_k143 K (f_X0_askAbove K kd (3 : Int32) n u)) else (f_X0_lashBody_k130 K (f_X0_fail (4 : Int32) u))) else (f_X0_lashBody_k152 K (f_X0_lashMixed K n u)))))))
set_option maxHeartbeats 4000000 in
set_option maxRecDepth 100000 in
theorem c_X0_lashBody_0 {p : Program} {e : Env} {s : State} {m : MethodId} {args : Array Value} {below : List Frame} {meth : Method} {c : Code} (l : Launch) (G : gC) (A : Nat → Prop) (hB hT hW hEn hV : Nat) (k : Nat) (dp : Int32) (K : Int32 → Int32 → Int32 → BS → Int32 × BS) (hK : ∀ (kd mb n : Int32) (u : BS), b_ok u → CI l yX0_start wsX0_start ({ frames := 4 * k + 4, cells := 0, slots := 0, locals := 120 * k + 60 } : Room) G A (b_W (gI G) hB hT hW hEn hV) b_ok [.ref hB, .ref hV, .int kd, .int mb, .int n, .int (dp + 1)] u (K kd mb n u)) (C0 : gX p s m args meth c cX0_lashBody 5 wsX0_lashBody RX0 (some .int)) (hE : gE G A s) (kd : Int32) (n : Int32) (u : BS) {H : Heap} {locs : List Loc} (hP : va_P (gD G) vwCl ((b_W (gI G) hB hT hW hEn hV) u) H) (hD : va_D A ((b_W (gI G) hB hT hW hEn hV) u)) (hok : b_ok u) (hS : va_S A s.heap H locs) {ls : Array Slot} (hl : lv_has ls 5 [(0, .ref hB), (1, .ref hV), (2, .int kd), (3, .int n), (4, .int dp)]) {fv : Int32 × BS} (hfv : f_X0_lashBody K kd n u = fv) : W p l e ({ frames := 4 * k + 7, cells := 0, slots := 0, locals := 120 * k + 135 } : Room) s m args below meth c H locs 0 0 (MQ below (gQi G A (b_W (gI G) hB hT hW hEn hV) b_ok fv) args s 0 0 A) (F0 m 0 ls []) := by
  obtain ⟨⟨hx, hb, hml, hown, hts⟩, hr, hlk⟩ := id C0
  have hok0 := hok
  have k0 := hts (.fieldLink RX0 103 "FerryDecks$Vehicle" "chains" "I") (by decide +kernel)
  have k1 := hts (.fieldLink RX0 9 "FerryDecks$Bodies" "terms" "[I") (by decide +kernel)
  have iX0 : ∀ w ∈ wsX00, w ∈ wsX0_lashBody := by decide +kernel
  have iX3 : ∀ w ∈ wsX30, w ∈ wsX0_lashBody := by decide +kernel
  refine lv_iload_n hx hb dX0_lashBody_0 rfl (lv_at hl 2 rfl) ?_
  by_cases c1_0 : kd = 0
  · refine gTs (off := 51) (tgt := 52) hx hb dX0_lashBody_1 rfl (by rw [c1_0]; decide) (by decide) ?_
    refine lv_aload_n hx hb dX0_lashBody_52 rfl (lv_at hl 1 rfl) ?_
    refine lv_dup hx hb dX0_lashBody_53 rfl ?_
    refine va_get (D := gD G) (ci := 3) (v := .int (b_ch u)) (C := RX3) (T := TX3) (N := 6) hx hb hts iX3 hown hE.1 hP 4 rfl rfl 3 (by decide) k0 (fun _ h9 => h9) rfl dX0_lashBody_54 ?_
    refine lv_iload_n hx hb dX0_lashBody_57 rfl (lv_at hl 3 rfl) ?_
    refine lv_iadd hx hb dX0_lashBody_58 ?_
    refine va_put (D := gD G) (ci := 3) (v := .int ((b_ch u) + n)) (ty := .int) (C := RX3) (T := TX3) (N := 6) hx hb hts iX3 tyX3 tyX3_ok nmX3 hown hE.1 hP hD hS 4 rfl rfl 3 (by decide) k0 (fun _ h9 => h9) rfl (by decide +kernel) rfl rfl (Nat.le_of_ble_eq_true rfl) dX0_lashBody_59 (fun H locs hP hD hS => ?_)
    have hP : va_P (gD G) vwCl ((b_W (gI G) hB hT hW hEn hV) (b_sCh u ((b_ch u) + n))) H := hP
    have hD : va_D A ((b_W (gI G) hB hT hW hEn hV) (b_sCh u ((b_ch u) + n))) := hD
    have hok : b_ok (b_sCh u ((b_ch u) + n)) := hok
    refine lv_aload_n hx hb dX0_lashBody_62 rfl (lv_at hl 1 rfl) ?_
    refine va_get (D := gD G) (ci := 3) (v := .int (b_ch (b_sCh u ((b_ch u) + n)))) (C := RX3) (T := TX3) (N := 6) hx hb hts iX3 hown hE.1 hP 4 rfl rfl 3 (by decide) k0 (fun _ h9 => h9) rfl dX0_lashBody_63 ?_
    exact gRi (u := b_sCh u ((b_ch u) + n)) hx hb hr hlk hP hD hok hS (by rw [← hfv, f_X0_lashBody, if_pos c1_0]) dX0_lashBody_66
  by_cases c1_2 : kd = 2
  · refine gTs (off := 66) (tgt := 67) hx hb dX0_lashBody_1 rfl (by rw [c1_2]; decide) (by decide) ?_
    refine lv_aload_n hx hb dX0_lashBody_67 rfl (lv_at hl 0 rfl) ?_
    refine lv_aload_n hx hb dX0_lashBody_68 rfl (lv_at hl 1 rfl) ?_
    refine lv_iload_n hx hb dX0_lashBody_69 rfl (lv_at hl 2 rfl) ?_
    refine lv_iconst (v := 3) hx hb dX0_lashBody_70 (by decide) ?_
    refine lv_iload_n hx hb dX0_lashBody_71 rfl (lv_at hl 3 rfl) ?_
    refine lv_iload hx hb dX0_lashBody_72 (lv_at hl 4 rfl) ?_
    refine gVi (u := u) (Wd := (b_W (gI G) hB hT hW hEn hV)) (ok := b_ok) (As := [.ref hV, .int kd, .int (3 : Int32), .int n, .int dp]) (rest := []) ⟨hx, hb, hml, hown, hts⟩ (c_X0_askAbove l G A hB hT hW hEn hV k dp K hK kd (3 : Int32) n u hok) (cwV 5 hts gX0_lashBody_X0_askAbove rfl rfl rfl (by decide +kernel) ⟨by show 4 * k + 5 + 1 ≤ 4 * k + 7; omega, by show 8 + (6 + 11) + (120 * k + 86) ≤ 120 * k + 135; omega⟩) hE hP hD hS (va_recv hE.1 hP (ci := 0) (q0 := 0) rfl rfl) rfl hl.1 rfl (Nat.le_of_ble_eq_true rfl) dX0_lashBody_74 ⟨Nat.zero_le _, Nat.zero_le _⟩ (fun q74 H locs e74 hP hD hok hS => ?_)
    refine lv_pop hx hb dX0_lashBody_77 rfl ?_
    refine lv_aload_n hx hb dX0_lashBody_78 rfl (lv_at hl 0 rfl) ?_
    refine lv_aload_n hx hb dX0_lashBody_79 rfl (lv_at hl 1 rfl) ?_
    refine lv_iload_n hx hb dX0_lashBody_80 rfl (lv_at hl 2 rfl) ?_
    refine lv_iconst (v := 3) hx hb dX0_lashBody_81 (by decide) ?_
    refine lv_iconst (v := 1) hx hb dX0_lashBody_82 (by decide) ?_
    refine lv_iload hx hb dX0_lashBody_83 (lv_at hl 4 rfl) ?_
    refine gVi (u := q74.2) (Wd := (b_W (gI G) hB hT hW hEn hV)) (ok := b_ok) (As := [.ref hV, .int kd, .int (3 : Int32), .int (1 : Int32), .int dp]) (rest := []) ⟨hx, hb, hml, hown, hts⟩ (c_X0_askAbove l G A hB hT hW hEn hV k dp K hK kd (3 : Int32) (1 : Int32) q74.2 hok) (cwV 5 hts gX0_lashBody_X0_askAbove rfl rfl rfl (by decide +kernel) ⟨by show 4 * k + 5 + 1 ≤ 4 * k + 7; omega, by show 8 + (6 + 11) + (120 * k + 86) ≤ 120 * k + 135; omega⟩) hE hP hD hS (va_recv hE.1 hP (ci := 0) (q0 := 0) rfl rfl) rfl hl.1 rfl (Nat.le_of_ble_eq_true rfl) dX0_lashBody_85 ⟨Nat.zero_le _, Nat.zero_le _⟩ (fun q85 H locs e85 hP hD hok hS => ?_)
    exact gRi (u := q85.2) hx hb hr hlk hP hD hok hS (by rw [← hfv, f_X0_lashBody, if_neg c1_0, if_pos c1_2, ← e74, f_X0_lashBody_k74, ← e85, f_X0_lashBody_k85]) dX0_lashBody_88
  by_cases c1_4 : kd = 4
  · refine gTs (off := 88) (tgt := 89) hx hb dX0_lashBody_1 rfl (by rw [c1_4]; decide) (by decide) ?_
    refine lv_aload_n hx hb dX0_lashBody_89 rfl (lv_at hl 0 rfl) ?_
    refine lv_aload_n hx hb dX0_lashBody_90 rfl (lv_at hl 1 rfl) ?_
    refine lv_iload_n hx hb dX0_lashBody_91 rfl (lv_at hl 2 rfl) ?_
    refine lv_iconst (v := 3) hx hb dX0_lashBody_92 (by decide) ?_
    refine lv_iload_n hx hb dX0_lashBody_93 rfl (lv_at hl 3 rfl) ?_
    refine lv_iconst (v := 2) hx hb dX0_lashBody_94 (by decide) ?_
    refine lv_idiv hx hb dX0_lashBody_95 (by decide) ?_
    refine lv_iload hx hb dX0_lashBody_96 (lv_at hl 4 rfl) ?_
    refine gVi (u := u) (Wd := (b_W (gI G) hB hT hW hEn hV)) (ok := b_ok) (As := [.ref hV, .int kd, .int (3 : Int32), .int (n / (2 : Int32)), .int dp]) (rest := []) ⟨hx, hb, hml, hown, hts⟩ (c_X0_askAbove l G A hB hT hW hEn hV k dp K hK kd (3 : Int32) (n / (2 : Int32)) u hok) (cwV 5 hts gX0_lashBody_X0_askAbove rfl rfl rfl (by decide +kernel) ⟨by show 4 * k + 5 + 1 ≤ 4 * k + 7; omega, by show 8 + (6 + 11) + (120 * k + 86) ≤ 120 * k + 135; omega⟩) hE hP hD hS (va_recv hE.1 hP (ci := 0) (q0 := 0) rfl rfl) rfl hl.1 rfl (Nat.le_of_ble_eq_true rfl) dX0_lashBody_98 ⟨Nat.zero_le _, Nat.zero_le _⟩ (fun q98 H locs e98 hP hD hok hS => ?_)
    exact gRi (u := q98.2) hx hb hr hlk hP hD hok hS (by rw [← hfv, f_X0_lashBody, if_neg c1_0, if_neg c1_2, if_pos c1_4, ← e98, f_X0_lashBody_k98]) dX0_lashBody_101
  by_cases c1_7 : kd = 7
  · refine gTs (off := 101) (tgt := 102) hx hb dX0_lashBody_1 rfl (by rw [c1_7]; decide) (by decide) ?_
    refine lv_aload_n hx hb dX0_lashBody_102 rfl (lv_at hl 0 rfl) ?_
    refine lv_aload_n hx hb dX0_lashBody_103 rfl (lv_at hl 1 rfl) ?_
    refine lv_iload_n hx hb dX0_lashBody_104 rfl (lv_at hl 2 rfl) ?_
    refine lv_iconst (v := 3) hx hb dX0_lashBody_105 (by decide) ?_
    refine lv_iload_n hx hb dX0_lashBody_106 rfl (lv_at hl 3 rfl) ?_
    refine lv_iload_n hx hb dX0_lashBody_107 rfl (lv_at hl 3 rfl) ?_
    refine lv_iadd hx hb dX0_lashBody_108 ?_
    refine lv_iload hx hb dX0_lashBody_109 (lv_at hl 4 rfl) ?_
    refine gVi (u := u) (Wd := (b_W (gI G) hB hT hW hEn hV)) (ok := b_ok) (As := [.ref hV, .int kd, .int (3 : Int32), .int (n + n), .int dp]) (rest := []) ⟨hx, hb, hml, hown, hts⟩ (c_X0_askAbove l G A hB hT hW hEn hV k dp K hK kd (3 : Int32) (n + n) u hok) (cwV 5 hts gX0_lashBody_X0_askAbove rfl rfl rfl (by decide +kernel) ⟨by show 4 * k + 5 + 1 ≤ 4 * k + 7; omega, by show 8 + (6 + 11) + (120 * k + 86) ≤ 120 * k + 135; omega⟩) hE hP hD hS (va_recv hE.1 hP (ci := 0) (q0 := 0) rfl rfl) rfl hl.1 rfl (Nat.le_of_ble_eq_true rfl) dX0_lashBody_111 ⟨Nat.zero_le _, Nat.zero_le _⟩ (fun q111 H locs e111 hP hD hok hS => ?_)
    exact gRi (u := q111.2) hx hb hr hlk hP hD hok hS (by rw [← hfv, f_X0_lashBody, if_neg c1_0, if_neg c1_2, if_neg c1_4, if_pos c1_7, ← e111, f_X0_lashBody_k111]) dX0_lashBody_114
  by_cases c1_8 : kd = 8
  · refine gTs (off := 114) (tgt := 115) hx hb dX0_lashBody_1 rfl (by rw [c1_8]; decide) (by decide) ?_
    refine lv_aload_n hx hb dX0_lashBody_115 rfl (lv_at hl 1 rfl) ?_
    refine va_get (D := gD G) (ci := 3) (v := .int (b_ch u)) (C := RX3) (T := TX3) (N := 6) hx hb hts iX3 hown hE.1 hP 4 rfl rfl 3 (by decide) k0 (fun _ h9 => h9) rfl dX0_lashBody_116 ?_
    refine lv_aload_n hx hb dX0_lashBody_119 rfl (lv_at hl 0 rfl) ?_
    refine va_get (D := gD G) (ci := 0) (v := .ref hT) (C := RX0) (T := TX0) (N := 3) hx hb hts iX0 hown hE.1 hP 0 rfl rfl 0 (by decide) k1 (fun _ h9 => h9) rfl dX0_lashBody_120 ?_
    refine lv_iconst (v := 5) hx hb dX0_lashBody_123 (by decide) ?_
    refine va_iald hx hb hE.1 hP 1 0 rfl rfl (gIn (by decide) (by decide) (by decide)) dX0_lashBody_124 ?_
    refine lv_icmp_le (tgt := 136) hx hb dX0_lashBody_125 (by decide) (fun c125 => ?_) (fun c125 => ?_)
    · refine lv_aload_n hx hb dX0_lashBody_136 rfl (lv_at hl 0 rfl) ?_
      refine lv_aload_n hx hb dX0_lashBody_137 rfl (lv_at hl 1 rfl) ?_
      refine lv_iload_n hx hb dX0_lashBody_138 rfl (lv_at hl 2 rfl) ?_
      refine lv_iconst (v := 3) hx hb dX0_lashBody_139 (by decide) ?_
      refine lv_iload_n hx hb dX0_lashBody_140 rfl (lv_at hl 3 rfl) ?_
      refine lv_iload hx hb dX0_lashBody_141 (lv_at hl 4 rfl) ?_
      refine gVi (u := u) (Wd := (b_W (gI G) hB hT hW hEn hV)) (ok := b_ok) (As := [.ref hV, .int kd, .int (3 : Int32), .int n, .int dp]) (rest := []) ⟨hx, hb, hml, hown, hts⟩ (c_X0_askAbove l G A hB hT hW hEn hV k dp K hK kd (3 : Int32) n u hok) (cwV 5 hts gX0_lashBody_X0_askAbove rfl rfl rfl (by decide +kernel) ⟨by show 4 * k + 5 + 1 ≤ 4 * k + 7; omega, by show 8 + (6 + 11) + (120 * k + 86) ≤ 120 * k + 135; omega⟩) hE hP hD hS (va_recv hE.1 hP (ci := 0) (q0 := 0) rfl rfl) rfl hl.1 rfl (Nat.le_of_ble_eq_true rfl) dX0_lashBody_143 ⟨Nat.zero_le _, Nat.zero_le _⟩ (fun q143 H locs e143 hP hD hok hS => ?_)
      exact gRi (u := q143.2) hx hb hr hlk hP hD hok hS (by rw [← hfv, f_X0_lashBody, if_neg c1_0, if_neg c1_2, if_neg c1_4, if_neg c1_7, if_pos c1_8, if_pos c125, ← e143, f_X0_lashBody_k143]) dX0_lashBody_146
    · refine lv_aload_n hx hb dX0_lashBody_128 rfl (lv_at hl 0 rfl) ?_
      refine lv_iconst (v := 4) hx hb dX0_lashBody_129 (by decide) ?_
      refine gVi (u := u) (Wd := (b_W (gI G) hB hT hW hEn hV)) (ok := b_ok) (As := [.int (4 : Int32)]) (rest := []) ⟨hx, hb, hml, hown, hts⟩ (c_X0_fail l G A hB hT hW hEn hV (4 : Int32) u hok) (cwV 1 hts gX0_lashBody_X0_fail rfl rfl rfl (by decide +kernel) ⟨by show 0 + 1 ≤ 4 * k + 7; omega, by show 8 + (2 + 11) + 0 ≤ 120 * k + 135; omega⟩) hE hP hD hS (va_recv hE.1 hP (ci := 0) (q0 := 0) rfl rfl) rfl hl.1 rfl (Nat.le_of_ble_eq_true rfl) dX0_lashBody_130 ⟨Nat.zero_le _, Nat.zero_le _⟩ (fun q130 H locs e130 hP hD hok hS => ?_)
      refine lv_goto (tgt := 146) hx hb dX0_lashBody_133 (by decide) ?_
      exact gRi (u := q130.2) hx hb hr hlk hP hD hok hS (by rw [← hfv, f_X0_lashBody, if_neg c1_0, if_neg c1_2, if_neg c1_4, if_neg c1_7, if_pos c1_8, if_neg c125, ← e130, f_X0_lashBody_k130]) dX0_lashBody_146
  refine gTs (off := 146) (tgt := 147) hx hb dX0_lashBody_1 rfl (by have z0 := lv_neT (a := 0) c1_0 (by decide); have z2 := lv_neT (a := 2) c1_2 (by decide); have z4 := lv_neT (a := 4) c1_4 (by decide); have z7 := lv_neT (a := 7) c1_7 (by decide); have z8 := lv_neT (a := 8) c1_8 (by decide); unfold tsO; by_cases hh : kd.toInt < 0 ∨ 8 < kd.toInt; (rw [if_pos hh]); (rw [if_neg hh]; rcases (show kd.toInt = 1 ∨ kd.toInt = 3 ∨ kd.toInt = 5 ∨ kd.toInt = 6 by omega) with h | h | h | h <;> rw [h] <;> rfl)) (by decide) ?_
  refine lv_aload_n hx hb dX0_lashBody_147 rfl (lv_at hl 0 rfl) ?_
  refine lv_aload_n hx hb dX0_lashBody_148 rfl (lv_at hl 1 rfl) ?_
  refine lv_iload_n hx hb dX0_lashBody_149 rfl (lv_at hl 3 rfl) ?_
  refine lv_iload hx hb dX0_lashBody_150 (lv_at hl 4 rfl) ?_
  refine gVi (u := u) (Wd := (b_W (gI G) hB hT hW hEn hV)) (ok := b_ok) (As := [.ref hV, .int n, .int dp]) (rest := []) ⟨hx, hb, hml, hown, hts⟩ (c_X0_lashMixed l G A hB hT hW hEn hV k dp K hK n u hok) (cwV 3 hts gX0_lashBody_X0_lashMixed rfl rfl rfl (by decide +kernel) ⟨by show 4 * k + 6 + 1 ≤ 4 * k + 7; omega, by show 8 + (5 + 11) + (120 * k + 111) ≤ 120 * k + 135; omega⟩) hE hP hD hS (va_recv hE.1 hP (ci := 0) (q0 := 0) rfl rfl) rfl hl.1 rfl (Nat.le_of_ble_eq_true rfl) dX0_lashBody_152 ⟨Nat.zero_le _, Nat.zero_le _⟩ (fun q152 H locs e152 hP hD hok hS => ?_)
  exact gRi (u := q152.2) hx hb hr hlk hP hD hok hS (by rw [← hfv, f_X0_lashBody, if_neg c1_0, if_neg c1_2, if_neg c1_4, if_neg c1_7, if_neg c1_8, ← e152, f_X0_lashBody_k152]) dX0_lashBody_155
set_option maxHeartbeats 4000000 in
set_option maxRecDepth 100000 in
theorem c_X0_lashBody (l : Launch) (G : gC) (A : Nat → Prop) (hB hT hW hEn hV : Nat) (k : Nat) (dp : Int32) (K : Int32 → Int32 → Int32 → BS → Int32 × BS) (hK : ∀ (kd mb n : Int32) (u : BS), b_ok u → CI l yX0_start wsX0_start ({ frames := 4 * k + 4, cells := 0, slots := 0, locals := 120 * k + 60 } : Room) G A (b_W (gI G) hB hT hW hEn hV) b_ok [.ref hB, .ref hV, .int kd, .int mb, .int n, .int (dp + 1)] u (K kd mb n u)) (kd : Int32) (n : Int32) (u : BS) (hok : b_ok u) : CI l yX0_lashBody wsX0_lashBody ({ frames := 4 * k + 7, cells := 0, slots := 0, locals := 120 * k + 135 } : Room) G A (b_W (gI G) hB hT hW hEn hV) b_ok [.ref hB, .ref hV, .int kd, .int n, .int dp] u (f_X0_lashBody K kd n u) := by
  refine Met.ofW (cc := cX0_lashBody) (maxL := 5) (ret := (some .int)) (by decide) rfl ?_
  intro p e s m args below meth c s₁ B hml hv
  obtain ⟨rfl, hE, hP, hD⟩ := hv
  have hl := lv_entry ([.ref hB, .ref hV, .int kd, .int n, .int dp]) (n := 5) (Nat.le_of_ble_eq_true rfl)
  rw [lg_entry_eq]
  generalize (lg_sl ([.ref hB, .ref hV, .int kd, .int n, .int dp]) ++ List.replicate (5 - (lg_sl ([.ref hB, .ref hV, .int kd, .int n, .int dp])).length) Slot.unset).toArray = ls at hl ⊢
  exact c_X0_lashBody_0 l G A hB hT hW hEn hV k dp K hK ⟨⟨B.exec, B.bytes, hml, findClass_of_methodNamed B.named, atoms_spec (ws := wsX0_lashBody) B.pre⟩, B.returns, B.notSynchronized⟩ hE kd n u hP hD hok va_S.rf hl rfl
end
section
-- FerryDecks$Bodies.start
def f_X0_start_k90 (K : Int32 → Int32 → Int32 → BS → Int32 × BS) (q90 : Int32 × BS) : Int32 × BS :=
  (q90.1, q90.2)
def f_X0_start_k102 (K : Int32 → Int32 → Int32 → BS → Int32 × BS) (q102 : Int32 × BS) : Int32 × BS :=
  (q102.1, q102.2)
def f_X0_start_k114 (K : Int32 → Int32 → Int32 → BS → Int32 × BS) (q114 : Int32 × BS) : Int32 × BS :=
  (q114.1, q114.2)
def f_X0_start_k126 (K : Int32 → Int32 → Int32 → BS → Int32 × BS) (q126 : Int32 × BS) : Int32 × BS :=
  (q126.1, q126.2)
def f_X0_start_k136 (K : Int32 → Int32 → Int32 → BS → Int32 × BS) (q136 : Int32 × BS) : Int32 × BS :=
  (q136.1, q136.2)
def f_X0_start_k148 (K : Int32 → Int32 → Int32 → BS → Int32 × BS) (q148 : Int32 × BS) : Int32 × BS :=
  (q148.1, q148.2)
def f_X0_start_k158 (K : Int32 → Int32 → Int32 → BS → Int32 × BS) (q158 : Int32 × BS) : Int32 × BS :=
  (q158.1, q158.2)
def f_X0_start_k40 (K : Int32 → Int32 → Int32 → BS → Int32 × BS) (mb : Int32) (n : Int32) (q2 : Int32) (q40 : BS) : Int32 × BS :=
  (if mb = 0 then (f_X0_start_k90 K (f_X0_lengthBody K q2 q40)) else (if mb = 1 then (f_X0_start_k102 K (f_X0_feeBody K q2 n q40)) else (if mb = 2 then (f_X0_start_k114 K (f_X0_riskBody K q2 n q40)) else (if mb = 3 then (f_X0_start_k126 K (f_X0_lashBody K q2 n q40)) else (if mb = 4 then (f_X0_start_k136 K (f_X0_markBody K q2 q40)) else (if mb = 5 then (f_X0_start_k148 K (f_X0_pullBody K q2 n q40)) else (f_X0_start_k158 K (f_X0_hookBody K q2 q40))))))))
def f_X0_start_k8 (K : Int32 → Int32 → Int32 → BS → Int32 × BS) (mb : Int32) (n : Int32) (q2 : Int32) (q8 : Int32 × BS) : Int32 × BS :=
  (if q8.1 = 0 then (if q2 = (-1 : Int32) then ((0 : Int32), q8.2) else (f_X0_start_k40 K mb n q2 (f_X2_write (((10 : Int32) * q2) + mb) q8.2))) else ((0 : Int32), q8.2))
def f_X0_start_k2 (K : Int32 → Int32 → Int32 → BS → Int32 × BS) (mb : Int32) (n : Int32) (u : BS) (q2 : Int32) : Int32 × BS :=
  (f_X0_start_k8 K mb n q2 (f_X0_failed u))
def f_X0_start (K : Int32 → Int32 → Int32 → BS → Int32 × BS) (kd : Int32) (mb : Int32) (n : Int32) (u : BS) : Int32 × BS :=
  (f_X0_start_k2 K mb n u (f_X4_ownerOf mb kd))
set_option maxHeartbeats 4000000 in
set_option maxRecDepth 100000 in
theorem c_X0_start_0 {p : Program} {e : Env} {s : State} {m : MethodId} {args : Array Value} {below : List Frame} {meth : Method} {c : Code} (l : Launch) (G : gC) (A : Nat → Prop) (hB hT hW hEn hV : Nat) (k : Nat) (dp : Int32) (K : Int32 → Int32 → Int32 → BS → Int32 × BS) (hK : ∀ (kd mb n : Int32) (u : BS), b_ok u → CI l yX0_start wsX0_start ({ frames := 4 * k + 4, cells := 0, slots := 0, locals := 120 * k + 60 } : Room) G A (b_W (gI G) hB hT hW hEn hV) b_ok [.ref hB, .ref hV, .int kd, .int mb, .int n, .int (dp + 1)] u (K kd mb n u)) (hdp : dp ≤ 20) (C0 : gX p s m args meth c cX0_start 7 wsX0_start RX0 (some .int)) (hE : gE G A s) (kd : Int32) (mb : Int32) (n : Int32) (u : BS) {H : Heap} {locs : List Loc} (hP : va_P (gD G) vwCl ((b_W (gI G) hB hT hW hEn hV) u) H) (hD : va_D A ((b_W (gI G) hB hT hW hEn hV) u)) (hok : b_ok u) (hS : va_S A s.heap H locs) {ls : Array Slot} (hl : lv_has ls 7 [(0, .ref hB), (1, .ref hV), (2, .int kd), (3, .int mb), (4, .int n), (5, .int dp)]) {fv : Int32 × BS} (hfv : f_X0_start K kd mb n u = fv) : W p l e ({ frames := 4 * (k + 1) + 4, cells := 0, slots := 0, locals := 120 * (k + 1) + 60 } : Room) s m args below meth c H locs 0 0 (MQ below (gQi G A (b_W (gI G) hB hT hW hEn hV) b_ok fv) args s 0 0 A) (F0 m 0 ls []) := by
  obtain ⟨⟨hx, hb, hml, hown, hts⟩, hr, hlk⟩ := id C0
  have hok0 := hok
  have k0 := hts (.initialized RX4) (by decide +kernel)
  have k1 := hts (.static yX4_ownerOf) (by decide +kernel)
  have k2 := hts (.fieldLink RX0 18 "FerryDecks$Bodies" "written" "LFerryDecks$Trace;") (by decide +kernel)
  have iX0 : ∀ w ∈ wsX00, w ∈ wsX0_start := by decide +kernel
  refine lv_iload_n hx hb dX0_start_0 rfl (lv_at hl 3 rfl) ?_
  refine lv_iload_n hx hb dX0_start_1 rfl (lv_at hl 2 rfl) ?_
  refine gNi (As := [.int mb, .int kd]) (rest := []) ⟨hx, hb, hml, hown, hts⟩ (c_X4_ownerOf l G A mb kd) ⟨va_cnB 2 hts gX0_start_X4_ownerOf_n38 rfl rfl rfl hE.2.1.2.1 k0 (by decide +kernel) ⟨by show 1 + 1 ≤ 4 * (k + 1) + 4; omega, by show 8 + (2 + 11) + 22 ≤ 120 * (k + 1) + 60; omega⟩, k1, trivial⟩ hE hS rfl hl.1 rfl (Nat.le_of_ble_eq_true rfl) dX0_start_2 ⟨Nat.zero_le _, Nat.zero_le _⟩ (fun q2 e2 => ?_)
  refine lv_istore (lv' := [(6, .int q2), (0, .ref hB), (1, .ref hV), (2, .int kd), (3, .int mb), (4, .int n), (5, .int dp)]) hx hb dX0_start_5 hl (by decide) rfl (fun ls hl => ?_)
  refine lv_aload_n hx hb dX0_start_7 rfl (lv_at hl 1 rfl) ?_
  refine gVi (u := u) (Wd := (b_W (gI G) hB hT hW hEn hV)) (ok := b_ok) (As := []) (rest := []) ⟨hx, hb, hml, hown, hts⟩ (c_X0_failed l G A hB hT hW hEn hV u hok) (cwV 0 hts gX0_start_X0_failed rfl rfl rfl (by decide +kernel) ⟨by show 0 + 1 ≤ 4 * (k + 1) + 4; omega, by show 8 + (1 + 11) + 0 ≤ 120 * (k + 1) + 60; omega⟩) hE hP hD hS (va_recv hE.1 hP (ci := 0) (q0 := 0) rfl rfl) rfl hl.1 rfl (Nat.le_of_ble_eq_true rfl) dX0_start_8 ⟨Nat.zero_le _, Nat.zero_le _⟩ (fun q8 H locs e8 hP hD hok hS => ?_)
  refine lv_if_ne (tgt := 27) hx hb dX0_start_11 (by decide) (fun c11 => ?_) (fun c11 => ?_)
  · refine lv_iconst (v := 0) hx hb dX0_start_27 (by decide) ?_
    exact gRi (u := q8.2) hx hb hr hlk hP hD hok hS (by rw [← hfv, f_X0_start, ← e2, f_X0_start_k2, ← e8, f_X0_start_k8, if_neg c11]) dX0_start_28
  · refine lv_iload hx hb dX0_start_14 (lv_at hl 0 rfl) ?_
    refine lv_iconst (v := -1) hx hb dX0_start_16 (by decide) ?_
    refine lv_icmp_eq (tgt := 27) hx hb dX0_start_17 (by decide) (fun c17 => ?_) (fun c17 => ?_)
    · refine lv_iconst (v := 0) hx hb dX0_start_27 (by decide) ?_
      exact gRi (u := q8.2) hx hb hr hlk hP hD hok hS (by rw [← hfv, f_X0_start, ← e2, f_X0_start_k2, ← e8, f_X0_start_k8, if_pos c11, if_pos c17]) dX0_start_28
    · refine lv_iload hx hb dX0_start_20 (lv_at hl 6 rfl) ?_
      refine lv_bipush (v := 20) hx hb dX0_start_22 (by decide) ?_
      refine lv_icmp_le (tgt := 29) hx hb dX0_start_24 (by decide) (fun c24 => ?_) (fun c24 => ?_)
      · refine lv_aload_n hx hb dX0_start_29 rfl (lv_at hl 1 rfl) ?_
        refine va_get (D := gD G) (ci := 0) (v := .ref hW) (C := RX0) (T := TX0) (N := 3) hx hb hts iX0 hown hE.1 hP 0 rfl rfl 1 (by decide) k2 (fun _ h9 => h9) rfl dX0_start_30 ?_
        refine lv_bipush (v := 10) hx hb dX0_start_33 (by decide) ?_
        refine lv_iload hx hb dX0_start_35 (lv_at hl 0 rfl) ?_
        refine lv_imul hx hb dX0_start_37 ?_
        refine lv_iload_n hx hb dX0_start_38 rfl (lv_at hl 4 rfl) ?_
        refine lv_iadd hx hb dX0_start_39 ?_
        refine gVv (u := q8.2) (Wd := (b_W (gI G) hB hT hW hEn hV)) (ok := b_ok) (As := [.int (((10 : Int32) * q2) + mb)]) (rest := []) ⟨hx, hb, hml, hown, hts⟩ (c_X2_write l G A hB hT hW hEn hV (((10 : Int32) * q2) + mb) q8.2 hok) (cwV 1 hts gX0_start_X2_write rfl rfl rfl (by decide +kernel) ⟨by show 0 + 1 ≤ 4 * (k + 1) + 4; omega, by show 8 + (2 + 11) + 0 ≤ 120 * (k + 1) + 60; omega⟩) hE hP hD hS (va_recv hE.1 hP (ci := 2) (q0 := 2) rfl rfl) rfl hl.1 rfl (Nat.le_of_ble_eq_true rfl) dX0_start_40 ⟨Nat.zero_le _, Nat.zero_le _⟩ (fun q40 H locs e40 hP hD hok hS => ?_)
        refine lv_iload_n hx hb dX0_start_43 rfl (lv_at hl 4 rfl) ?_
        by_cases c44_0 : mb = 0
        · refine gTs (off := 40) (tgt := 84) hx hb dX0_start_44 rfl (by rw [c44_0]; decide) (by decide) ?_
          refine lv_aload_n hx hb dX0_start_84 rfl (lv_at hl 1 rfl) ?_
          refine lv_aload_n hx hb dX0_start_85 rfl (lv_at hl 2 rfl) ?_
          refine lv_iload hx hb dX0_start_86 (lv_at hl 0 rfl) ?_
          refine lv_iload hx hb dX0_start_88 (lv_at hl 6 rfl) ?_
          refine gVi (u := q40) (Wd := (b_W (gI G) hB hT hW hEn hV)) (ok := b_ok) (As := [.ref hV, .int q2, .int dp]) (rest := []) ⟨hx, hb, hml, hown, hts⟩ (c_X0_lengthBody l G A hB hT hW hEn hV k dp K hK q2 q40 hok) (cwV 3 hts gX0_start_X0_lengthBody rfl rfl rfl (by decide +kernel) ⟨by show 4 * k + 7 + 1 ≤ 4 * (k + 1) + 4; omega, by show 8 + (5 + 11) + (120 * k + 135) ≤ 120 * (k + 1) + 60; omega⟩) hE hP hD hS (va_recv hE.1 hP (ci := 0) (q0 := 0) rfl rfl) rfl hl.1 rfl (Nat.le_of_ble_eq_true rfl) dX0_start_90 ⟨Nat.zero_le _, Nat.zero_le _⟩ (fun q90 H locs e90 hP hD hok hS => ?_)
          exact gRi (u := q90.2) hx hb hr hlk hP hD hok hS (by rw [← hfv, f_X0_start, ← e2, f_X0_start_k2, ← e8, f_X0_start_k8, if_pos c11, if_neg c17, ← e40, f_X0_start_k40, if_pos c44_0, ← e90, f_X0_start_k90]) dX0_start_93
        by_cases c44_1 : mb = 1
        · refine gTs (off := 50) (tgt := 94) hx hb dX0_start_44 rfl (by rw [c44_1]; decide) (by decide) ?_
          refine lv_aload_n hx hb dX0_start_94 rfl (lv_at hl 1 rfl) ?_
          refine lv_aload_n hx hb dX0_start_95 rfl (lv_at hl 2 rfl) ?_
          refine lv_iload hx hb dX0_start_96 (lv_at hl 0 rfl) ?_
          refine lv_iload hx hb dX0_start_98 (lv_at hl 5 rfl) ?_
          refine lv_iload hx hb dX0_start_100 (lv_at hl 6 rfl) ?_
          refine gVi (u := q40) (Wd := (b_W (gI G) hB hT hW hEn hV)) (ok := b_ok) (As := [.ref hV, .int q2, .int n, .int dp]) (rest := []) ⟨hx, hb, hml, hown, hts⟩ (c_X0_feeBody l G A hB hT hW hEn hV k dp K hK q2 n q40 hok) (cwV 4 hts gX0_start_X0_feeBody rfl rfl rfl (by decide +kernel) ⟨by show 4 * k + 7 + 1 ≤ 4 * (k + 1) + 4; omega, by show 8 + (6 + 11) + (120 * k + 135) ≤ 120 * (k + 1) + 60; omega⟩) hE hP hD hS (va_recv hE.1 hP (ci := 0) (q0 := 0) rfl rfl) rfl hl.1 rfl (Nat.le_of_ble_eq_true rfl) dX0_start_102 ⟨Nat.zero_le _, Nat.zero_le _⟩ (fun q102 H locs e102 hP hD hok hS => ?_)
          exact gRi (u := q102.2) hx hb hr hlk hP hD hok hS (by rw [← hfv, f_X0_start, ← e2, f_X0_start_k2, ← e8, f_X0_start_k8, if_pos c11, if_neg c17, ← e40, f_X0_start_k40, if_neg c44_0, if_pos c44_1, ← e102, f_X0_start_k102]) dX0_start_105
        by_cases c44_2 : mb = 2
        · refine gTs (off := 62) (tgt := 106) hx hb dX0_start_44 rfl (by rw [c44_2]; decide) (by decide) ?_
          refine lv_aload_n hx hb dX0_start_106 rfl (lv_at hl 1 rfl) ?_
          refine lv_aload_n hx hb dX0_start_107 rfl (lv_at hl 2 rfl) ?_
          refine lv_iload hx hb dX0_start_108 (lv_at hl 0 rfl) ?_
          refine lv_iload hx hb dX0_start_110 (lv_at hl 5 rfl) ?_
          refine lv_iload hx hb dX0_start_112 (lv_at hl 6 rfl) ?_
          refine gVi (u := q40) (Wd := (b_W (gI G) hB hT hW hEn hV)) (ok := b_ok) (As := [.ref hV, .int q2, .int n, .int dp]) (rest := []) ⟨hx, hb, hml, hown, hts⟩ (c_X0_riskBody l G A hB hT hW hEn hV k dp K hK q2 n q40 hok) (cwV 4 hts gX0_start_X0_riskBody rfl rfl rfl (by decide +kernel) ⟨by show 4 * k + 7 + 1 ≤ 4 * (k + 1) + 4; omega, by show 8 + (6 + 11) + (120 * k + 135) ≤ 120 * (k + 1) + 60; omega⟩) hE hP hD hS (va_recv hE.1 hP (ci := 0) (q0 := 0) rfl rfl) rfl hl.1 rfl (Nat.le_of_ble_eq_true rfl) dX0_start_114 ⟨Nat.zero_le _, Nat.zero_le _⟩ (fun q114 H locs e114 hP hD hok hS => ?_)
          exact gRi (u := q114.2) hx hb hr hlk hP hD hok hS (by rw [← hfv, f_X0_start, ← e2, f_X0_start_k2, ← e8, f_X0_start_k8, if_pos c11, if_neg c17, ← e40, f_X0_start_k40, if_neg c44_0, if_neg c44_1, if_pos c44_2, ← e114, f_X0_start_k114]) dX0_start_117
        by_cases c44_3 : mb = 3
        · refine gTs (off := 74) (tgt := 118) hx hb dX0_start_44 rfl (by rw [c44_3]; decide) (by decide) ?_
          refine lv_aload_n hx hb dX0_start_118 rfl (lv_at hl 1 rfl) ?_
          refine lv_aload_n hx hb dX0_start_119 rfl (lv_at hl 2 rfl) ?_
          refine lv_iload hx hb dX0_start_120 (lv_at hl 0 rfl) ?_
          refine lv_iload hx hb dX0_start_122 (lv_at hl 5 rfl) ?_
          refine lv_iload hx hb dX0_start_124 (lv_at hl 6 rfl) ?_
          refine gVi (u := q40) (Wd := (b_W (gI G) hB hT hW hEn hV)) (ok := b_ok) (As := [.ref hV, .int q2, .int n, .int dp]) (rest := []) ⟨hx, hb, hml, hown, hts⟩ (c_X0_lashBody l G A hB hT hW hEn hV k dp K hK q2 n q40 hok) (cwV 4 hts gX0_start_X0_lashBody rfl rfl rfl (by decide +kernel) ⟨by show 4 * k + 7 + 1 ≤ 4 * (k + 1) + 4; omega, by show 8 + (5 + 11) + (120 * k + 135) ≤ 120 * (k + 1) + 60; omega⟩) hE hP hD hS (va_recv hE.1 hP (ci := 0) (q0 := 0) rfl rfl) rfl hl.1 rfl (Nat.le_of_ble_eq_true rfl) dX0_start_126 ⟨Nat.zero_le _, Nat.zero_le _⟩ (fun q126 H locs e126 hP hD hok hS => ?_)
          exact gRi (u := q126.2) hx hb hr hlk hP hD hok hS (by rw [← hfv, f_X0_start, ← e2, f_X0_start_k2, ← e8, f_X0_start_k8, if_pos c11, if_neg c17, ← e40, f_X0_start_k40, if_neg c44_0, if_neg c44_1, if_neg c44_2, if_pos c44_3, ← e126, f_X0_start_k126]) dX0_start_129
        by_cases c44_4 : mb = 4
        · refine gTs (off := 86) (tgt := 130) hx hb dX0_start_44 rfl (by rw [c44_4]; decide) (by decide) ?_
          refine lv_aload_n hx hb dX0_start_130 rfl (lv_at hl 1 rfl) ?_
          refine lv_aload_n hx hb dX0_start_131 rfl (lv_at hl 2 rfl) ?_
          refine lv_iload hx hb dX0_start_132 (lv_at hl 0 rfl) ?_
          refine lv_iload hx hb dX0_start_134 (lv_at hl 6 rfl) ?_
          refine gVi (u := q40) (Wd := (b_W (gI G) hB hT hW hEn hV)) (ok := b_ok) (As := [.ref hV, .int q2, .int dp]) (rest := []) ⟨hx, hb, hml, hown, hts⟩ (c_X0_markBody l G A hB hT hW hEn hV k dp K hK q2 q40 hok) (cwV 3 hts gX0_start_X0_markBody rfl rfl rfl (by decide +kernel) ⟨by show 4 * k + 7 + 1 ≤ 4 * (k + 1) + 4; omega, by show 8 + (5 + 11) + (120 * k + 135) ≤ 120 * (k + 1) + 60; omega⟩) hE hP hD hS (va_recv hE.1 hP (ci := 0) (q0 := 0) rfl rfl) rfl hl.1 rfl (Nat.le_of_ble_eq_true rfl) dX0_start_136 ⟨Nat.zero_le _, Nat.zero_le _⟩ (fun q136 H locs e136 hP hD hok hS => ?_)
          exact gRi (u := q136.2) hx hb hr hlk hP hD hok hS (by rw [← hfv, f_X0_start, ← e2, f_X0_start_k2, ← e8, f_X0_start_k8, if_pos c11, if_neg c17, ← e40, f_X0_start_k40, if_neg c44_0, if_neg c44_1, if_neg c44_2, if_neg c44_3, if_pos c44_4, ← e136, f_X0_start_k136]) dX0_start_139
        by_cases c44_5 : mb = 5
        · refine gTs (off := 96) (tgt := 140) hx hb dX0_start_44 rfl (by rw [c44_5]; decide) (by decide) ?_
          refine lv_aload_n hx hb dX0_start_140 rfl (lv_at hl 1 rfl) ?_
          refine lv_aload_n hx hb dX0_start_141 rfl (lv_at hl 2 rfl) ?_
          refine lv_iload hx hb dX0_start_142 (lv_at hl 0 rfl) ?_
          refine lv_iload hx hb dX0_start_144 (lv_at hl 5 rfl) ?_
          refine lv_iload hx hb dX0_start_146 (lv_at hl 6 rfl) ?_
          refine gVi (u := q40) (Wd := (b_W (gI G) hB hT hW hEn hV)) (ok := b_ok) (As := [.ref hV, .int q2, .int n, .int dp]) (rest := []) ⟨hx, hb, hml, hown, hts⟩ (c_X0_pullBody l G A hB hT hW hEn hV k dp K hK q2 n q40 hok) (cwV 4 hts gX0_start_X0_pullBody rfl rfl rfl (by decide +kernel) ⟨by show 4 * k + 7 + 1 ≤ 4 * (k + 1) + 4; omega, by show 8 + (6 + 11) + (120 * k + 135) ≤ 120 * (k + 1) + 60; omega⟩) hE hP hD hS (va_recv hE.1 hP (ci := 0) (q0 := 0) rfl rfl) rfl hl.1 rfl (Nat.le_of_ble_eq_true rfl) dX0_start_148 ⟨Nat.zero_le _, Nat.zero_le _⟩ (fun q148 H locs e148 hP hD hok hS => ?_)
          exact gRi (u := q148.2) hx hb hr hlk hP hD hok hS (by rw [← hfv, f_X0_start, ← e2, f_X0_start_k2, ← e8, f_X0_start_k8, if_pos c11, if_neg c17, ← e40, f_X0_start_k40, if_neg c44_0, if_neg c44_1, if_neg c44_2, if_neg c44_3, if_neg c44_4, if_pos c44_5, ← e148, f_X0_start_k148]) dX0_start_151
        refine gTs (off := 108) (tgt := 152) hx hb dX0_start_44 rfl (by have z0 := lv_neT (a := 0) c44_0 (by decide); have z1 := lv_neT (a := 1) c44_1 (by decide); have z2 := lv_neT (a := 2) c44_2 (by decide); have z3 := lv_neT (a := 3) c44_3 (by decide); have z4 := lv_neT (a := 4) c44_4 (by decide); have z5 := lv_neT (a := 5) c44_5 (by decide); unfold tsO; by_cases hh : mb.toInt < 0 ∨ 5 < mb.toInt; (rw [if_pos hh]); (rw [if_neg hh]; omega)) (by decide) ?_
        refine lv_aload_n hx hb dX0_start_152 rfl (lv_at hl 1 rfl) ?_
        refine lv_aload_n hx hb dX0_start_153 rfl (lv_at hl 2 rfl) ?_
        refine lv_iload hx hb dX0_start_154 (lv_at hl 0 rfl) ?_
        refine lv_iload hx hb dX0_start_156 (lv_at hl 6 rfl) ?_
        refine gVi (u := q40) (Wd := (b_W (gI G) hB hT hW hEn hV)) (ok := b_ok) (As := [.ref hV, .int q2, .int dp]) (rest := []) ⟨hx, hb, hml, hown, hts⟩ (c_X0_hookBody l G A hB hT hW hEn hV k dp K hK q2 q40 hok) (cwV 3 hts gX0_start_X0_hookBody rfl rfl rfl (by decide +kernel) ⟨by show 4 * k + 7 + 1 ≤ 4 * (k + 1) + 4; omega, by show 8 + (4 + 11) + (120 * k + 135) ≤ 120 * (k + 1) + 60; omega⟩) hE hP hD hS (va_recv hE.1 hP (ci := 0) (q0 := 0) rfl rfl) rfl hl.1 rfl (Nat.le_of_ble_eq_true rfl) dX0_start_158 ⟨Nat.zero_le _, Nat.zero_le _⟩ (fun q158 H locs e158 hP hD hok hS => ?_)
        exact gRi (u := q158.2) hx hb hr hlk hP hD hok hS (by rw [← hfv, f_X0_start, ← e2, f_X0_start_k2, ← e8, f_X0_start_k8, if_pos c11, if_neg c17, ← e40, f_X0_start_k40, if_neg c44_0, if_neg c44_1, if_neg c44_2, if_neg c44_3, if_neg c44_4, if_neg c44_5, ← e158, f_X0_start_k158]) dX0_start_161
      · exact absurd (hdp) c24
set_option maxHeartbeats 4000000 in
set_option maxRecDepth 100000 in
theorem c_X0_start (l : Launch) (G : gC) (A : Nat → Prop) (hB hT hW hEn hV : Nat) (k : Nat) (dp : Int32) (K : Int32 → Int32 → Int32 → BS → Int32 × BS) (hK : ∀ (kd mb n : Int32) (u : BS), b_ok u → CI l yX0_start wsX0_start ({ frames := 4 * k + 4, cells := 0, slots := 0, locals := 120 * k + 60 } : Room) G A (b_W (gI G) hB hT hW hEn hV) b_ok [.ref hB, .ref hV, .int kd, .int mb, .int n, .int (dp + 1)] u (K kd mb n u)) (hdp : dp ≤ 20) (kd : Int32) (mb : Int32) (n : Int32) (u : BS) (hok : b_ok u) : CI l yX0_start wsX0_start ({ frames := 4 * (k + 1) + 4, cells := 0, slots := 0, locals := 120 * (k + 1) + 60 } : Room) G A (b_W (gI G) hB hT hW hEn hV) b_ok [.ref hB, .ref hV, .int kd, .int mb, .int n, .int dp] u (f_X0_start K kd mb n u) := by
  refine Met.ofW (cc := cX0_start) (maxL := 7) (ret := (some .int)) (by decide) rfl ?_
  intro p e s m args below meth c s₁ B hml hv
  obtain ⟨rfl, hE, hP, hD⟩ := hv
  have hl := lv_entry ([.ref hB, .ref hV, .int kd, .int mb, .int n, .int dp]) (n := 7) (Nat.le_of_ble_eq_true rfl)
  rw [lg_entry_eq]
  generalize (lg_sl ([.ref hB, .ref hV, .int kd, .int mb, .int n, .int dp]) ++ List.replicate (7 - (lg_sl ([.ref hB, .ref hV, .int kd, .int mb, .int n, .int dp])).length) Slot.unset).toArray = ls at hl ⊢
  exact c_X0_start_0 l G A hB hT hW hEn hV k dp K hK hdp ⟨⟨B.exec, B.bytes, hml, findClass_of_methodNamed B.named, atoms_spec (ws := wsX0_start) B.pre⟩, B.returns, B.notSynchronized⟩ hE kd mb n u hP hD hok va_S.rf hl rfl

-- FerryDecks$Bodies.start
def f_X0_start0_k8 (q2 : Int32) (q8 : Int32 × BS) : Int32 × BS :=
  (if q8.1 = 0 then (if q2 = (-1 : Int32) then ((0 : Int32), q8.2) else ((0 : Int32), q8.2)) else ((0 : Int32), q8.2))
def f_X0_start0_k2 (u : BS) (q2 : Int32) : Int32 × BS :=
  (f_X0_start0_k8 q2 (f_X0_failed u))
def f_X0_start0 (kd : Int32) (mb : Int32) (n : Int32) (u : BS) : Int32 × BS :=
  (f_X0_start0_k2 u (f_X4_ownerOf mb kd))
set_option maxHeartbeats 4000000 in
set_option maxRecDepth 100000 in
theorem c_X0_start0_0 {p : Program} {e : Env} {s : State} {m : MethodId} {args : Array Value} {below : List Frame} {meth : Method} {c : Code} (l : Launch) (G : gC) (A : Nat → Prop) (hB hT hW hEn hV : Nat) (dp : Int32) (hdp : ¬ dp ≤ 20) (C0 : gX p s m args meth c cX0_start 7 wsX0_start RX0 (some .int)) (hE : gE G A s) (kd : Int32) (mb : Int32) (n : Int32) (u : BS) {H : Heap} {locs : List Loc} (hP : va_P (gD G) vwCl ((b_W (gI G) hB hT hW hEn hV) u) H) (hD : va_D A ((b_W (gI G) hB hT hW hEn hV) u)) (hok : b_ok u) (hS : va_S A s.heap H locs) {ls : Array Slot} (hl : lv_has ls 7 [(0, .ref hB), (1, .ref hV), (2, .int kd), (3, .int mb), (4, .int n), (5, .int dp)]) {fv : Int32 × BS} (hfv : f_X0_start0 kd mb n u = fv) : W p l e ({ frames := 4, cells := 0, slots := 0, locals := 60 } : Room) s m args below meth c H locs 0 0 (MQ below (gQi G A (b_W (gI G) hB hT hW hEn hV) b_ok fv) args s 0 0 A) (F0 m 0 ls []) := by
  obtain ⟨⟨hx, hb, hml, hown, hts⟩, hr, hlk⟩ := id C0
  have hok0 := hok
  have k0 := hts (.initialized RX4) (by decide +kernel)
  have k1 := hts (.static yX4_ownerOf) (by decide +kernel)
  refine lv_iload_n hx hb dX0_start_0 rfl (lv_at hl 3 rfl) ?_
  refine lv_iload_n hx hb dX0_start_1 rfl (lv_at hl 2 rfl) ?_
  refine gNi (As := [.int mb, .int kd]) (rest := []) ⟨hx, hb, hml, hown, hts⟩ (c_X4_ownerOf l G A mb kd) ⟨va_cnB 2 hts gX0_start_X4_ownerOf_n38 rfl rfl rfl hE.2.1.2.1 k0 (by decide +kernel) ⟨by show 1 + 1 ≤ 4; omega, by show 8 + (2 + 11) + 22 ≤ 60; omega⟩, k1, trivial⟩ hE hS rfl hl.1 rfl (Nat.le_of_ble_eq_true rfl) dX0_start_2 ⟨Nat.zero_le _, Nat.zero_le _⟩ (fun q2 e2 => ?_)
  refine lv_istore (lv' := [(6, .int q2), (0, .ref hB), (1, .ref hV), (2, .int kd), (3, .int mb), (4, .int n), (5, .int dp)]) hx hb dX0_start_5 hl (by decide) rfl (fun ls hl => ?_)
  refine lv_aload_n hx hb dX0_start_7 rfl (lv_at hl 1 rfl) ?_
  refine gVi (u := u) (Wd := (b_W (gI G) hB hT hW hEn hV)) (ok := b_ok) (As := []) (rest := []) ⟨hx, hb, hml, hown, hts⟩ (c_X0_failed l G A hB hT hW hEn hV u hok) (cwV 0 hts gX0_start_X0_failed rfl rfl rfl (by decide +kernel) ⟨by show 0 + 1 ≤ 4; omega, by show 8 + (1 + 11) + 0 ≤ 60; omega⟩) hE hP hD hS (va_recv hE.1 hP (ci := 0) (q0 := 0) rfl rfl) rfl hl.1 rfl (Nat.le_of_ble_eq_true rfl) dX0_start_8 ⟨Nat.zero_le _, Nat.zero_le _⟩ (fun q8 H locs e8 hP hD hok hS => ?_)
  refine lv_if_ne (tgt := 27) hx hb dX0_start_11 (by decide) (fun c11 => ?_) (fun c11 => ?_)
  · refine lv_iconst (v := 0) hx hb dX0_start_27 (by decide) ?_
    exact gRi (u := q8.2) hx hb hr hlk hP hD hok hS (by rw [← hfv, f_X0_start0, ← e2, f_X0_start0_k2, ← e8, f_X0_start0_k8, if_neg c11]) dX0_start_28
  · refine lv_iload hx hb dX0_start_14 (lv_at hl 0 rfl) ?_
    refine lv_iconst (v := -1) hx hb dX0_start_16 (by decide) ?_
    refine lv_icmp_eq (tgt := 27) hx hb dX0_start_17 (by decide) (fun c17 => ?_) (fun c17 => ?_)
    · refine lv_iconst (v := 0) hx hb dX0_start_27 (by decide) ?_
      exact gRi (u := q8.2) hx hb hr hlk hP hD hok hS (by rw [← hfv, f_X0_start0, ← e2, f_X0_start0_k2, ← e8, f_X0_start0_k8, if_pos c11, if_pos c17]) dX0_start_28
    · refine lv_iload hx hb dX0_start_20 (lv_at hl 6 rfl) ?_
      refine lv_bipush (v := 20) hx hb dX0_start_22 (by decide) ?_
      refine lv_icmp_le (tgt := 29) hx hb dX0_start_24 (by decide) (fun c24 => ?_) (fun c24 => ?_)
      · exact absurd c24 (hdp)
      · refine lv_iconst (v := 0) hx hb dX0_start_27 (by decide) ?_
        exact gRi (u := q8.2) hx hb hr hlk hP hD hok hS (by rw [← hfv, f_X0_start0, ← e2, f_X0_start0_k2, ← e8, f_X0_start0_k8, if_pos c11, if_neg c17]) dX0_start_28
set_option maxHeartbeats 4000000 in
set_option maxRecDepth 100000 in
theorem c_X0_start0 (l : Launch) (G : gC) (A : Nat → Prop) (hB hT hW hEn hV : Nat) (dp : Int32) (hdp : ¬ dp ≤ 20) (kd : Int32) (mb : Int32) (n : Int32) (u : BS) (hok : b_ok u) : CI l yX0_start wsX0_start ({ frames := 4, cells := 0, slots := 0, locals := 60 } : Room) G A (b_W (gI G) hB hT hW hEn hV) b_ok [.ref hB, .ref hV, .int kd, .int mb, .int n, .int dp] u (f_X0_start0 kd mb n u) := by
  refine Met.ofW (cc := cX0_start) (maxL := 7) (ret := (some .int)) (by decide) rfl ?_
  intro p e s m args below meth c s₁ B hml hv
  obtain ⟨rfl, hE, hP, hD⟩ := hv
  have hl := lv_entry ([.ref hB, .ref hV, .int kd, .int mb, .int n, .int dp]) (n := 7) (Nat.le_of_ble_eq_true rfl)
  rw [lg_entry_eq]
  generalize (lg_sl ([.ref hB, .ref hV, .int kd, .int mb, .int n, .int dp]) ++ List.replicate (7 - (lg_sl ([.ref hB, .ref hV, .int kd, .int mb, .int n, .int dp])).length) Slot.unset).toArray = ls at hl ⊢
  exact c_X0_start0_0 l G A hB hT hW hEn hV dp hdp ⟨⟨B.exec, B.bytes, hml, findClass_of_methodNamed B.named, atoms_spec (ws := wsX0_start) B.pre⟩, B.returns, B.notSynchronized⟩ hE kd mb n u hP hD hok va_S.rf hl rfl
end
