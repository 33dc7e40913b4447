-- ===== PART A: goes FIRST, ahead of the names: the tables' words, and 'selects' of the private methods out of them =====
/-- a private method of a class that the tables say can be made, by its rows of tables_1 -/
def lw_okq (q : MethodName × Nat) : Prop := (q.1.cls ≠ "java/lang/invoke/MethodHandle" ∧ q.1.cls ≠ "java/lang/invoke/VarHandle") ∧ Cond.instantiable q.1.cls q.2 ∈ tables_1 ∧ Cond.privateMethod q.1 ∈ tables_1 ∧ Cond.instanceMethod q.1 ∈ tables_1
set_option maxRecDepth 100000 in
theorem lw_p0 : lw_okq (⟨"TaleBans", "sheetAt", "(I)LTaleBans$Sheet;"⟩, 5) := ⟨⟨by decide +kernel, by decide +kernel⟩, List.mem_of_getElem? (i := 16) rfl, List.mem_of_getElem? (i := 174) rfl, List.mem_of_getElem? (i := 175) rfl⟩
set_option maxRecDepth 100000 in
theorem lw_p1 : lw_okq (⟨"TaleBans$Sheet", "faultOfTaking", "(III)I"⟩, 3) := ⟨⟨by decide +kernel, by decide +kernel⟩, List.mem_of_getElem? (i := 136) rfl, List.mem_of_getElem? (i := 181) rfl, List.mem_of_getElem? (i := 182) rfl⟩
set_option maxRecDepth 100000 in
theorem lw_p2 : lw_okq (⟨"TaleBans$Sheet", "hasNothing", "()Z"⟩, 3) := ⟨⟨by decide +kernel, by decide +kernel⟩, List.mem_of_getElem? (i := 136) rfl, List.mem_of_getElem? (i := 185) rfl, List.mem_of_getElem? (i := 186) rfl⟩
set_option maxRecDepth 100000 in
theorem lw_p3 : lw_okq (⟨"TaleBans$Sheet", "reaches", "(II)Z"⟩, 3) := ⟨⟨by decide +kernel, by decide +kernel⟩, List.mem_of_getElem? (i := 136) rfl, List.mem_of_getElem? (i := 189) rfl, List.mem_of_getElem? (i := 190) rfl⟩
set_option maxRecDepth 100000 in
theorem lw_p4 : lw_okq (⟨"TaleBans", "faulted", "(I)I"⟩, 5) := ⟨⟨by decide +kernel, by decide +kernel⟩, List.mem_of_getElem? (i := 16) rfl, List.mem_of_getElem? (i := 193) rfl, List.mem_of_getElem? (i := 194) rfl⟩
set_option maxRecDepth 100000 in
theorem lw_p5 : lw_okq (⟨"TaleBans$Sheet", "at", "(I)I"⟩, 3) := ⟨⟨by decide +kernel, by decide +kernel⟩, List.mem_of_getElem? (i := 136) rfl, List.mem_of_getElem? (i := 200) rfl, List.mem_of_getElem? (i := 201) rfl⟩
set_option maxRecDepth 100000 in
theorem lw_p6 : lw_okq (⟨"TaleBans$Sheet", "has", "(I)Z"⟩, 3) := ⟨⟨by decide +kernel, by decide +kernel⟩, List.mem_of_getElem? (i := 136) rfl, List.mem_of_getElem? (i := 204) rfl, List.mem_of_getElem? (i := 205) rfl⟩
set_option maxRecDepth 100000 in
theorem lw_p7 : lw_okq (⟨"TaleBans$Steppe", "settle", "(LTaleBans$Sheet;II)V"⟩, 8) := ⟨⟨by decide +kernel, by decide +kernel⟩, List.mem_of_getElem? (i := 37) rfl, List.mem_of_getElem? (i := 212) rfl, List.mem_of_getElem? (i := 213) rfl⟩
set_option maxRecDepth 100000 in
theorem lw_p8 : lw_okq (⟨"TaleBans$Ledger", "clear", "()V"⟩, 3) := ⟨⟨by decide +kernel, by decide +kernel⟩, List.mem_of_getElem? (i := 45) rfl, List.mem_of_getElem? (i := 260) rfl, List.mem_of_getElem? (i := 261) rfl⟩
set_option maxRecDepth 100000 in
theorem lw_p9 : lw_okq (⟨"TaleBans$Steppe", "person", "(I)LTaleBans$Herder;"⟩, 8) := ⟨⟨by decide +kernel, by decide +kernel⟩, List.mem_of_getElem? (i := 37) rfl, List.mem_of_getElem? (i := 268) rfl, List.mem_of_getElem? (i := 269) rfl⟩
set_option maxRecDepth 100000 in
theorem lw_p10 : lw_okq (⟨"TaleBans", "refusal", "(ZZ)I"⟩, 5) := ⟨⟨by decide +kernel, by decide +kernel⟩, List.mem_of_getElem? (i := 16) rfl, List.mem_of_getElem? (i := 304) rfl, List.mem_of_getElem? (i := 305) rfl⟩
set_option maxRecDepth 100000 in
theorem lw_p11 : lw_okq (⟨"TaleBans$Steppe", "isEmpty", "()Z"⟩, 8) := ⟨⟨by decide +kernel, by decide +kernel⟩, List.mem_of_getElem? (i := 37) rfl, List.mem_of_getElem? (i := 308) rfl, List.mem_of_getElem? (i := 309) rfl⟩
set_option maxRecDepth 100000 in
theorem lw_p12 : lw_okq (⟨"TaleBans$Ledger", "add", "(IIII)I"⟩, 3) := ⟨⟨by decide +kernel, by decide +kernel⟩, List.mem_of_getElem? (i := 45) rfl, List.mem_of_getElem? (i := 312) rfl, List.mem_of_getElem? (i := 313) rfl⟩
set_option maxRecDepth 100000 in
theorem lw_p13 : lw_okq (⟨"TaleBans$Ledger", "set", "(III)V"⟩, 3) := ⟨⟨by decide +kernel, by decide +kernel⟩, List.mem_of_getElem? (i := 45) rfl, List.mem_of_getElem? (i := 316) rfl, List.mem_of_getElem? (i := 317) rfl⟩
set_option maxRecDepth 100000 in
theorem lw_p14 : lw_okq (⟨"TaleBans$Ledger", "has", "(I)Z"⟩, 3) := ⟨⟨by decide +kernel, by decide +kernel⟩, List.mem_of_getElem? (i := 45) rfl, List.mem_of_getElem? (i := 320) rfl, List.mem_of_getElem? (i := 321) rfl⟩
set_option maxRecDepth 100000 in
theorem lw_p15 : lw_okq (⟨"TaleBans$Ledger", "takeBack", "(I)I"⟩, 3) := ⟨⟨by decide +kernel, by decide +kernel⟩, List.mem_of_getElem? (i := 45) rfl, List.mem_of_getElem? (i := 329) rfl, List.mem_of_getElem? (i := 330) rfl⟩
def lw_privs_1 : List (MethodName × Nat) := [(⟨"TaleBans", "sheetAt", "(I)LTaleBans$Sheet;"⟩, 5), (⟨"TaleBans$Sheet", "faultOfTaking", "(III)I"⟩, 3), (⟨"TaleBans$Sheet", "hasNothing", "()Z"⟩, 3), (⟨"TaleBans$Sheet", "reaches", "(II)Z"⟩, 3), (⟨"TaleBans", "faulted", "(I)I"⟩, 5), (⟨"TaleBans$Sheet", "at", "(I)I"⟩, 3), (⟨"TaleBans$Sheet", "has", "(I)Z"⟩, 3), (⟨"TaleBans$Steppe", "settle", "(LTaleBans$Sheet;II)V"⟩, 8), (⟨"TaleBans$Ledger", "clear", "()V"⟩, 3), (⟨"TaleBans$Steppe", "person", "(I)LTaleBans$Herder;"⟩, 8), (⟨"TaleBans", "refusal", "(ZZ)I"⟩, 5), (⟨"TaleBans$Steppe", "isEmpty", "()Z"⟩, 8), (⟨"TaleBans$Ledger", "add", "(IIII)I"⟩, 3), (⟨"TaleBans$Ledger", "set", "(III)V"⟩, 3), (⟨"TaleBans$Ledger", "has", "(I)Z"⟩, 3), (⟨"TaleBans$Ledger", "takeBack", "(I)I"⟩, 3)]
theorem lw_r1 : ∀ q ∈ lw_privs_1, lw_okq q := List.forall_mem_cons.mpr ⟨lw_p0, List.forall_mem_cons.mpr ⟨lw_p1, List.forall_mem_cons.mpr ⟨lw_p2, List.forall_mem_cons.mpr ⟨lw_p3, List.forall_mem_cons.mpr ⟨lw_p4, List.forall_mem_cons.mpr ⟨lw_p5, List.forall_mem_cons.mpr ⟨lw_p6, List.forall_mem_cons.mpr ⟨lw_p7, List.forall_mem_cons.mpr ⟨lw_p8, List.forall_mem_cons.mpr ⟨lw_p9, List.forall_mem_cons.mpr ⟨lw_p10, List.forall_mem_cons.mpr ⟨lw_p11, List.forall_mem_cons.mpr ⟨lw_p12, List.forall_mem_cons.mpr ⟨lw_p13, List.forall_mem_cons.mpr ⟨lw_p14, List.forall_mem_cons.mpr ⟨lw_p15, fun _ h => absurd h List.not_mem_nil⟩⟩⟩⟩⟩⟩⟩⟩⟩⟩⟩⟩⟩⟩⟩⟩
set_option maxRecDepth 100000 in
theorem lw_p16 : lw_okq (⟨"TaleBans$Ledger", "keepBelow", "(II)V"⟩, 3) := ⟨⟨by decide +kernel, by decide +kernel⟩, List.mem_of_getElem? (i := 45) rfl, List.mem_of_getElem? (i := 333) rfl, List.mem_of_getElem? (i := 334) rfl⟩
set_option maxRecDepth 100000 in
theorem lw_p17 : lw_okq (⟨"TaleBans$Ledger", "at", "(II)I"⟩, 3) := ⟨⟨by decide +kernel, by decide +kernel⟩, List.mem_of_getElem? (i := 45) rfl, List.mem_of_getElem? (i := 337) rfl, List.mem_of_getElem? (i := 338) rfl⟩
set_option maxRecDepth 100000 in
theorem lw_p18 : lw_okq (⟨"TaleBans", "reach", "(II)V"⟩, 5) := ⟨⟨by decide +kernel, by decide +kernel⟩, List.mem_of_getElem? (i := 16) rfl, List.mem_of_getElem? (i := 371) rfl, List.mem_of_getElem? (i := 372) rfl⟩
set_option maxRecDepth 100000 in
theorem lw_p19 : lw_okq (⟨"TaleBans$Seasons", "begin", "(II)V"⟩, 10) := ⟨⟨by decide +kernel, by decide +kernel⟩, List.mem_of_getElem? (i := 100) rfl, List.mem_of_getElem? (i := 375) rfl, List.mem_of_getElem? (i := 376) rfl⟩
set_option maxRecDepth 100000 in
theorem lw_p20 : lw_okq (⟨"TaleBans$Seasons", "pass", "()V"⟩, 10) := ⟨⟨by decide +kernel, by decide +kernel⟩, List.mem_of_getElem? (i := 100) rfl, List.mem_of_getElem? (i := 384) rfl, List.mem_of_getElem? (i := 385) rfl⟩
set_option maxRecDepth 100000 in
theorem lw_p21 : lw_okq (⟨"TaleBans$Seasons", "forget", "()V"⟩, 10) := ⟨⟨by decide +kernel, by decide +kernel⟩, List.mem_of_getElem? (i := 100) rfl, List.mem_of_getElem? (i := 388) rfl, List.mem_of_getElem? (i := 389) rfl⟩
set_option maxRecDepth 100000 in
theorem lw_p22 : lw_okq (⟨"TaleBans$Seasons", "makeMoves", "()V"⟩, 10) := ⟨⟨by decide +kernel, by decide +kernel⟩, List.mem_of_getElem? (i := 100) rfl, List.mem_of_getElem? (i := 392) rfl, List.mem_of_getElem? (i := 393) rfl⟩
set_option maxRecDepth 100000 in
theorem lw_p23 : lw_okq (⟨"TaleBans$Seasons", "bringTales", "()V"⟩, 10) := ⟨⟨by decide +kernel, by decide +kernel⟩, List.mem_of_getElem? (i := 100) rfl, List.mem_of_getElem? (i := 398) rfl, List.mem_of_getElem? (i := 399) rfl⟩
set_option maxRecDepth 100000 in
theorem lw_p24 : lw_okq (⟨"TaleBans$Seasons", "hear", "(II)V"⟩, 10) := ⟨⟨by decide +kernel, by decide +kernel⟩, List.mem_of_getElem? (i := 100) rfl, List.mem_of_getElem? (i := 402) rfl, List.mem_of_getElem? (i := 403) rfl⟩
set_option maxRecDepth 100000 in
theorem lw_p25 : lw_okq (⟨"TaleBans$Seasons", "tellAt", "(I)V"⟩, 10) := ⟨⟨by decide +kernel, by decide +kernel⟩, List.mem_of_getElem? (i := 100) rfl, List.mem_of_getElem? (i := 406) rfl, List.mem_of_getElem? (i := 407) rfl⟩
set_option maxRecDepth 100000 in
theorem lw_p26 : lw_okq (⟨"TaleBans$Seasons", "knownAt", "(I)I"⟩, 10) := ⟨⟨by decide +kernel, by decide +kernel⟩, List.mem_of_getElem? (i := 100) rfl, List.mem_of_getElem? (i := 410) rfl, List.mem_of_getElem? (i := 411) rfl⟩
set_option maxRecDepth 100000 in
theorem lw_p27 : lw_okq (⟨"TaleBans$Seasons", "chosen", "(II)I"⟩, 10) := ⟨⟨by decide +kernel, by decide +kernel⟩, List.mem_of_getElem? (i := 100) rfl, List.mem_of_getElem? (i := 414) rfl, List.mem_of_getElem? (i := 415) rfl⟩
set_option maxRecDepth 100000 in
theorem lw_p28 : lw_okq (⟨"TaleBans$Seasons", "isRather", "(III)Z"⟩, 10) := ⟨⟨by decide +kernel, by decide +kernel⟩, List.mem_of_getElem? (i := 100) rfl, List.mem_of_getElem? (i := 419) rfl, List.mem_of_getElem? (i := 420) rfl⟩
set_option maxRecDepth 100000 in
theorem lw_p29 : lw_okq (⟨"TaleBans$Seasons", "talesOf", "(I)I"⟩, 10) := ⟨⟨by decide +kernel, by decide +kernel⟩, List.mem_of_getElem? (i := 100) rfl, List.mem_of_getElem? (i := 423) rfl, List.mem_of_getElem? (i := 424) rfl⟩
set_option maxRecDepth 100000 in
theorem lw_p30 : lw_okq (⟨"TaleBans$Seasons", "placeOf", "(I)I"⟩, 10) := ⟨⟨by decide +kernel, by decide +kernel⟩, List.mem_of_getElem? (i := 100) rfl, List.mem_of_getElem? (i := 431) rfl, List.mem_of_getElem? (i := 432) rfl⟩
set_option maxRecDepth 100000 in
theorem lw_p31 : lw_okq (⟨"TaleBans$Seasons", "taleAt", "(I)I"⟩, 10) := ⟨⟨by decide +kernel, by decide +kernel⟩, List.mem_of_getElem? (i := 100) rfl, List.mem_of_getElem? (i := 439) rfl, List.mem_of_getElem? (i := 440) rfl⟩
def lw_privs_2 : List (MethodName × Nat) := [(⟨"TaleBans$Ledger", "keepBelow", "(II)V"⟩, 3), (⟨"TaleBans$Ledger", "at", "(II)I"⟩, 3), (⟨"TaleBans", "reach", "(II)V"⟩, 5), (⟨"TaleBans$Seasons", "begin", "(II)V"⟩, 10), (⟨"TaleBans$Seasons", "pass", "()V"⟩, 10), (⟨"TaleBans$Seasons", "forget", "()V"⟩, 10), (⟨"TaleBans$Seasons", "makeMoves", "()V"⟩, 10), (⟨"TaleBans$Seasons", "bringTales", "()V"⟩, 10), (⟨"TaleBans$Seasons", "hear", "(II)V"⟩, 10), (⟨"TaleBans$Seasons", "tellAt", "(I)V"⟩, 10), (⟨"TaleBans$Seasons", "knownAt", "(I)I"⟩, 10), (⟨"TaleBans$Seasons", "chosen", "(II)I"⟩, 10), (⟨"TaleBans$Seasons", "isRather", "(III)Z"⟩, 10), (⟨"TaleBans$Seasons", "talesOf", "(I)I"⟩, 10), (⟨"TaleBans$Seasons", "placeOf", "(I)I"⟩, 10), (⟨"TaleBans$Seasons", "taleAt", "(I)I"⟩, 10)]
theorem lw_r2 : ∀ q ∈ lw_privs_2, lw_okq q := List.forall_mem_cons.mpr ⟨lw_p16, List.forall_mem_cons.mpr ⟨lw_p17, List.forall_mem_cons.mpr ⟨lw_p18, List.forall_mem_cons.mpr ⟨lw_p19, List.forall_mem_cons.mpr ⟨lw_p20, List.forall_mem_cons.mpr ⟨lw_p21, List.forall_mem_cons.mpr ⟨lw_p22, List.forall_mem_cons.mpr ⟨lw_p23, List.forall_mem_cons.mpr ⟨lw_p24, List.forall_mem_cons.mpr ⟨lw_p25, List.forall_mem_cons.mpr ⟨lw_p26, List.forall_mem_cons.mpr ⟨lw_p27, List.forall_mem_cons.mpr ⟨lw_p28, List.forall_mem_cons.mpr ⟨lw_p29, List.forall_mem_cons.mpr ⟨lw_p30, List.forall_mem_cons.mpr ⟨lw_p31, fun _ h => absurd h List.not_mem_nil⟩⟩⟩⟩⟩⟩⟩⟩⟩⟩⟩⟩⟩⟩⟩⟩
set_option maxRecDepth 100000 in
theorem lw_p32 : lw_okq (⟨"TaleBans$Seasons", "bannedDeeds", "()I"⟩, 10) := ⟨⟨by decide +kernel, by decide +kernel⟩, List.mem_of_getElem? (i := 100) rfl, List.mem_of_getElem? (i := 447) rfl, List.mem_of_getElem? (i := 448) rfl⟩
set_option maxRecDepth 100000 in
theorem lw_p33 : lw_okq (⟨"TaleBans$Seasons", "talesOfAll", "()I"⟩, 10) := ⟨⟨by decide +kernel, by decide +kernel⟩, List.mem_of_getElem? (i := 100) rfl, List.mem_of_getElem? (i := 451) rfl, List.mem_of_getElem? (i := 452) rfl⟩
set_option maxRecDepth 100000 in
theorem lw_p34 : lw_okq (⟨"TaleBans$Seasons", "isLaughedAt", "(I)Z"⟩, 10) := ⟨⟨by decide +kernel, by decide +kernel⟩, List.mem_of_getElem? (i := 100) rfl, List.mem_of_getElem? (i := 455) rfl, List.mem_of_getElem? (i := 456) rfl⟩
set_option maxRecDepth 100000 in
theorem lw_p35 : lw_okq (⟨"TaleBans", "deathOf", "(I)I"⟩, 5) := ⟨⟨by decide +kernel, by decide +kernel⟩, List.mem_of_getElem? (i := 16) rfl, List.mem_of_getElem? (i := 463) rfl, List.mem_of_getElem? (i := 464) rfl⟩
set_option maxRecDepth 100000 in
theorem lw_p36 : lw_okq (⟨"TaleBans$Seasons", "isBanned", "(I)Z"⟩, 10) := ⟨⟨by decide +kernel, by decide +kernel⟩, List.mem_of_getElem? (i := 100) rfl, List.mem_of_getElem? (i := 472) rfl, List.mem_of_getElem? (i := 473) rfl⟩
set_option maxRecDepth 100000 in
theorem lw_p37 : lw_okq (⟨"TaleBans", "isBannedIfPaid", "(III)Z"⟩, 5) := ⟨⟨by decide +kernel, by decide +kernel⟩, List.mem_of_getElem? (i := 16) rfl, List.mem_of_getElem? (i := 487) rfl, List.mem_of_getElem? (i := 488) rfl⟩
set_option maxRecDepth 100000 in
theorem lw_p38 : lw_okq (⟨"TaleBans$Steppe", "firstUnmet", "(I)I"⟩, 8) := ⟨⟨by decide +kernel, by decide +kernel⟩, List.mem_of_getElem? (i := 37) rfl, List.mem_of_getElem? (i := 503) rfl, List.mem_of_getElem? (i := 504) rfl⟩
set_option maxRecDepth 100000 in
theorem lw_p39 : lw_okq (⟨"TaleBans$Sheet", "hasOnlyBelow", "(III)Z"⟩, 3) := ⟨⟨by decide +kernel, by decide +kernel⟩, List.mem_of_getElem? (i := 136) rfl, List.mem_of_getElem? (i := 513) rfl, List.mem_of_getElem? (i := 514) rfl⟩
set_option maxRecDepth 100000 in
theorem lw_p40 : lw_okq (⟨"TaleBans", "firstBanned", "(ILTaleBans$Sheet;II)I"⟩, 5) := ⟨⟨by decide +kernel, by decide +kernel⟩, List.mem_of_getElem? (i := 16) rfl, List.mem_of_getElem? (i := 518) rfl, List.mem_of_getElem? (i := 519) rfl⟩
set_option maxRecDepth 100000 in
theorem lw_p41 : lw_okq (⟨"TaleBans", "areReadingsSo", "(II)Z"⟩, 5) := ⟨⟨by decide +kernel, by decide +kernel⟩, List.mem_of_getElem? (i := 16) rfl, List.mem_of_getElem? (i := 535) rfl, List.mem_of_getElem? (i := 536) rfl⟩
set_option maxRecDepth 100000 in
theorem lw_p42 : lw_okq (⟨"TaleBans", "areReadingsSoIn", "(I)Z"⟩, 5) := ⟨⟨by decide +kernel, by decide +kernel⟩, List.mem_of_getElem? (i := 16) rfl, List.mem_of_getElem? (i := 539) rfl, List.mem_of_getElem? (i := 540) rfl⟩
set_option maxRecDepth 100000 in
theorem lw_p43 : lw_okq (⟨"TaleBans$Sheet", "renew", "(II)V"⟩, 3) := ⟨⟨by decide +kernel, by decide +kernel⟩, List.mem_of_getElem? (i := 136) rfl, List.mem_of_getElem? (i := 560) rfl, List.mem_of_getElem? (i := 561) rfl⟩
set_option maxRecDepth 100000 in
theorem lw_p44 : lw_okq (⟨"TaleBans$Sheet", "clear", "()V"⟩, 3) := ⟨⟨by decide +kernel, by decide +kernel⟩, List.mem_of_getElem? (i := 136) rfl, List.mem_of_getElem? (i := 571) rfl, List.mem_of_getElem? (i := 572) rfl⟩
set_option maxRecDepth 100000 in
theorem lw_p45 : lw_okq (⟨"TaleBans$Sheet", "set", "(II)V"⟩, 3) := ⟨⟨by decide +kernel, by decide +kernel⟩, List.mem_of_getElem? (i := 136) rfl, List.mem_of_getElem? (i := 580) rfl, List.mem_of_getElem? (i := 581) rfl⟩
set_option maxRecDepth 100000 in
theorem lw_p46 : lw_okq (⟨"TaleBans$Sheet", "cut", "(I)I"⟩, 3) := ⟨⟨by decide +kernel, by decide +kernel⟩, List.mem_of_getElem? (i := 136) rfl, List.mem_of_getElem? (i := 584) rfl, List.mem_of_getElem? (i := 585) rfl⟩
set_option maxRecDepth 100000 in
theorem lw_p47 : lw_okq (⟨"TaleBans$Trace", "leave", "(I)V"⟩, 1) := ⟨⟨by decide +kernel, by decide +kernel⟩, List.mem_of_getElem? (i := 26) rfl, List.mem_of_getElem? (i := 609) rfl, List.mem_of_getElem? (i := 610) rfl⟩
def lw_privs_3 : List (MethodName × Nat) := [(⟨"TaleBans$Seasons", "bannedDeeds", "()I"⟩, 10), (⟨"TaleBans$Seasons", "talesOfAll", "()I"⟩, 10), (⟨"TaleBans$Seasons", "isLaughedAt", "(I)Z"⟩, 10), (⟨"TaleBans", "deathOf", "(I)I"⟩, 5), (⟨"TaleBans$Seasons", "isBanned", "(I)Z"⟩, 10), (⟨"TaleBans", "isBannedIfPaid", "(III)Z"⟩, 5), (⟨"TaleBans$Steppe", "firstUnmet", "(I)I"⟩, 8), (⟨"TaleBans$Sheet", "hasOnlyBelow", "(III)Z"⟩, 3), (⟨"TaleBans", "firstBanned", "(ILTaleBans$Sheet;II)I"⟩, 5), (⟨"TaleBans", "areReadingsSo", "(II)Z"⟩, 5), (⟨"TaleBans", "areReadingsSoIn", "(I)Z"⟩, 5), (⟨"TaleBans$Sheet", "renew", "(II)V"⟩, 3), (⟨"TaleBans$Sheet", "clear", "()V"⟩, 3), (⟨"TaleBans$Sheet", "set", "(II)V"⟩, 3), (⟨"TaleBans$Sheet", "cut", "(I)I"⟩, 3), (⟨"TaleBans$Trace", "leave", "(I)V"⟩, 1)]
theorem lw_r3 : ∀ q ∈ lw_privs_3, lw_okq q := List.forall_mem_cons.mpr ⟨lw_p32, List.forall_mem_cons.mpr ⟨lw_p33, List.forall_mem_cons.mpr ⟨lw_p34, List.forall_mem_cons.mpr ⟨lw_p35, List.forall_mem_cons.mpr ⟨lw_p36, List.forall_mem_cons.mpr ⟨lw_p37, List.forall_mem_cons.mpr ⟨lw_p38, List.forall_mem_cons.mpr ⟨lw_p39, List.forall_mem_cons.mpr ⟨lw_p40, List.forall_mem_cons.mpr ⟨lw_p41, List.forall_mem_cons.mpr ⟨lw_p42, List.forall_mem_cons.mpr ⟨lw_p43, List.forall_mem_cons.mpr ⟨lw_p44, List.forall_mem_cons.mpr ⟨lw_p45, List.forall_mem_cons.mpr ⟨lw_p46, List.forall_mem_cons.mpr ⟨lw_p47, fun _ h => absurd h List.not_mem_nil⟩⟩⟩⟩⟩⟩⟩⟩⟩⟩⟩⟩⟩⟩⟩⟩
set_option maxRecDepth 100000 in
theorem lw_p48 : lw_okq (⟨"TaleBansModel", "refused", "(I)I"⟩, 38) := ⟨⟨by decide +kernel, by decide +kernel⟩, List.mem_of_getElem? (i := 657) rfl, List.mem_of_getElem? (i := 790) rfl, List.mem_of_getElem? (i := 791) rfl⟩
set_option maxRecDepth 100000 in
theorem lw_p49 : lw_okq (⟨"TaleBansModel", "cellsBarred", "(IIIJ)I"⟩, 38) := ⟨⟨by decide +kernel, by decide +kernel⟩, List.mem_of_getElem? (i := 657) rfl, List.mem_of_getElem? (i := 795) rfl, List.mem_of_getElem? (i := 796) rfl⟩
set_option maxRecDepth 100000 in
theorem lw_p50 : lw_okq (⟨"TaleBansModel", "failed", "(I)I"⟩, 38) := ⟨⟨by decide +kernel, by decide +kernel⟩, List.mem_of_getElem? (i := 657) rfl, List.mem_of_getElem? (i := 799) rfl, List.mem_of_getElem? (i := 800) rfl⟩
set_option maxRecDepth 100000 in
theorem lw_p51 : lw_okq (⟨"TaleBansModel", "readsSteppe", "(II)Z"⟩, 38) := ⟨⟨by decide +kernel, by decide +kernel⟩, List.mem_of_getElem? (i := 657) rfl, List.mem_of_getElem? (i := 806) rfl, List.mem_of_getElem? (i := 807) rfl⟩
set_option maxRecDepth 100000 in
theorem lw_p52 : lw_okq (⟨"TaleBansModel", "codeAt", "(II)I"⟩, 38) := ⟨⟨by decide +kernel, by decide +kernel⟩, List.mem_of_getElem? (i := 657) rfl, List.mem_of_getElem? (i := 810) rfl, List.mem_of_getElem? (i := 811) rfl⟩
set_option maxRecDepth 100000 in
theorem lw_p53 : lw_okq (⟨"TaleBansModel", "readsPerson", "(II)Z"⟩, 38) := ⟨⟨by decide +kernel, by decide +kernel⟩, List.mem_of_getElem? (i := 657) rfl, List.mem_of_getElem? (i := 814) rfl, List.mem_of_getElem? (i := 815) rfl⟩
set_option maxRecDepth 100000 in
theorem lw_p54 : lw_okq (⟨"TaleBansModel", "figure", "(IIII)I"⟩, 38) := ⟨⟨by decide +kernel, by decide +kernel⟩, List.mem_of_getElem? (i := 657) rfl, List.mem_of_getElem? (i := 818) rfl, List.mem_of_getElem? (i := 819) rfl⟩
set_option maxRecDepth 100000 in
theorem lw_p55 : lw_okq (⟨"TaleBansModel", "noPerson", "(I)Z"⟩, 38) := ⟨⟨by decide +kernel, by decide +kernel⟩, List.mem_of_getElem? (i := 657) rfl, List.mem_of_getElem? (i := 826) rfl, List.mem_of_getElem? (i := 827) rfl⟩
set_option maxRecDepth 100000 in
theorem lw_p56 : lw_okq (⟨"TaleBansModel", "memoryOf", "(I)I"⟩, 38) := ⟨⟨by decide +kernel, by decide +kernel⟩, List.mem_of_getElem? (i := 657) rfl, List.mem_of_getElem? (i := 830) rfl, List.mem_of_getElem? (i := 831) rfl⟩
set_option maxRecDepth 100000 in
theorem lw_p57 : lw_okq (⟨"TaleBansModel", "noTale", "(I)Z"⟩, 38) := ⟨⟨by decide +kernel, by decide +kernel⟩, List.mem_of_getElem? (i := 657) rfl, List.mem_of_getElem? (i := 853) rfl, List.mem_of_getElem? (i := 854) rfl⟩
set_option maxRecDepth 100000 in
theorem lw_p58 : lw_okq (⟨"TaleBansModel", "goTo", "(I)V"⟩, 38) := ⟨⟨by decide +kernel, by decide +kernel⟩, List.mem_of_getElem? (i := 657) rfl, List.mem_of_getElem? (i := 884) rfl, List.mem_of_getElem? (i := 885) rfl⟩
set_option maxRecDepth 100000 in
theorem lw_p59 : lw_okq (⟨"TaleBansModel", "begin", "()V"⟩, 38) := ⟨⟨by decide +kernel, by decide +kernel⟩, List.mem_of_getElem? (i := 657) rfl, List.mem_of_getElem? (i := 888) rfl, List.mem_of_getElem? (i := 889) rfl⟩
set_option maxRecDepth 100000 in
theorem lw_p60 : lw_okq (⟨"TaleBansModel", "goSeason", "(I)V"⟩, 38) := ⟨⟨by decide +kernel, by decide +kernel⟩, List.mem_of_getElem? (i := 657) rfl, List.mem_of_getElem? (i := 892) rfl, List.mem_of_getElem? (i := 893) rfl⟩
set_option maxRecDepth 100000 in
theorem lw_p61 : lw_okq (⟨"TaleBansModel", "tellAt", "(II)V"⟩, 38) := ⟨⟨by decide +kernel, by decide +kernel⟩, List.mem_of_getElem? (i := 657) rfl, List.mem_of_getElem? (i := 896) rfl, List.mem_of_getElem? (i := 897) rfl⟩
set_option maxRecDepth 100000 in
theorem lw_p62 : lw_okq (⟨"TaleBansModel", "isKnownAt", "(III)Z"⟩, 38) := ⟨⟨by decide +kernel, by decide +kernel⟩, List.mem_of_getElem? (i := 657) rfl, List.mem_of_getElem? (i := 900) rfl, List.mem_of_getElem? (i := 901) rfl⟩
set_option maxRecDepth 100000 in
theorem lw_p63 : lw_okq (⟨"TaleBansModel", "doesRemember", "(III)Z"⟩, 38) := ⟨⟨by decide +kernel, by decide +kernel⟩, List.mem_of_getElem? (i := 657) rfl, List.mem_of_getElem? (i := 904) rfl, List.mem_of_getElem? (i := 905) rfl⟩
def lw_privs_4 : List (MethodName × Nat) := [(⟨"TaleBansModel", "refused", "(I)I"⟩, 38), (⟨"TaleBansModel", "cellsBarred", "(IIIJ)I"⟩, 38), (⟨"TaleBansModel", "failed", "(I)I"⟩, 38), (⟨"TaleBansModel", "readsSteppe", "(II)Z"⟩, 38), (⟨"TaleBansModel", "codeAt", "(II)I"⟩, 38), (⟨"TaleBansModel", "readsPerson", "(II)Z"⟩, 38), (⟨"TaleBansModel", "figure", "(IIII)I"⟩, 38), (⟨"TaleBansModel", "noPerson", "(I)Z"⟩, 38), (⟨"TaleBansModel", "memoryOf", "(I)I"⟩, 38), (⟨"TaleBansModel", "noTale", "(I)Z"⟩, 38), (⟨"TaleBansModel", "goTo", "(I)V"⟩, 38), (⟨"TaleBansModel", "begin", "()V"⟩, 38), (⟨"TaleBansModel", "goSeason", "(I)V"⟩, 38), (⟨"TaleBansModel", "tellAt", "(II)V"⟩, 38), (⟨"TaleBansModel", "isKnownAt", "(III)Z"⟩, 38), (⟨"TaleBansModel", "doesRemember", "(III)Z"⟩, 38)]
theorem lw_r4 : ∀ q ∈ lw_privs_4, lw_okq q := List.forall_mem_cons.mpr ⟨lw_p48, List.forall_mem_cons.mpr ⟨lw_p49, List.forall_mem_cons.mpr ⟨lw_p50, List.forall_mem_cons.mpr ⟨lw_p51, List.forall_mem_cons.mpr ⟨lw_p52, List.forall_mem_cons.mpr ⟨lw_p53, List.forall_mem_cons.mpr ⟨lw_p54, List.forall_mem_cons.mpr ⟨lw_p55, List.forall_mem_cons.mpr ⟨lw_p56, List.forall_mem_cons.mpr ⟨lw_p57, List.forall_mem_cons.mpr ⟨lw_p58, List.forall_mem_cons.mpr ⟨lw_p59, List.forall_mem_cons.mpr ⟨lw_p60, List.forall_mem_cons.mpr ⟨lw_p61, List.forall_mem_cons.mpr ⟨lw_p62, List.forall_mem_cons.mpr ⟨lw_p63, fun _ h => absurd h List.not_mem_nil⟩⟩⟩⟩⟩⟩⟩⟩⟩⟩⟩⟩⟩⟩⟩⟩
set_option maxRecDepth 100000 in
theorem lw_p64 : lw_okq (⟨"TaleBansModel", "isRather", "(III)Z"⟩, 38) := ⟨⟨by decide +kernel, by decide +kernel⟩, List.mem_of_getElem? (i := 657) rfl, List.mem_of_getElem? (i := 908) rfl, List.mem_of_getElem? (i := 909) rfl⟩
set_option maxRecDepth 100000 in
theorem lw_p65 : lw_okq (⟨"TaleBansModel", "forbiddenIn", "(I)I"⟩, 38) := ⟨⟨by decide +kernel, by decide +kernel⟩, List.mem_of_getElem? (i := 657) rfl, List.mem_of_getElem? (i := 924) rfl, List.mem_of_getElem? (i := 925) rfl⟩
set_option maxRecDepth 100000 in
theorem lw_p66 : lw_okq (⟨"TaleBansModel", "isAlive", "(II)Z"⟩, 38) := ⟨⟨by decide +kernel, by decide +kernel⟩, List.mem_of_getElem? (i := 657) rfl, List.mem_of_getElem? (i := 928) rfl, List.mem_of_getElem? (i := 929) rfl⟩
set_option maxRecDepth 100000 in
theorem lw_p67 : lw_okq (⟨"TaleBansModel", "endOf", "(I)I"⟩, 38) := ⟨⟨by decide +kernel, by decide +kernel⟩, List.mem_of_getElem? (i := 657) rfl, List.mem_of_getElem? (i := 936) rfl, List.mem_of_getElem? (i := 937) rfl⟩
set_option maxRecDepth 100000 in
theorem lw_p68 : lw_okq (⟨"TaleBansModel", "refusedFor", "(II)I"⟩, 38) := ⟨⟨by decide +kernel, by decide +kernel⟩, List.mem_of_getElem? (i := 657) rfl, List.mem_of_getElem? (i := 944) rfl, List.mem_of_getElem? (i := 945) rfl⟩
set_option maxRecDepth 100000 in
theorem lw_p69 : lw_okq (⟨"TaleBansModel", "all", "()I"⟩, 38) := ⟨⟨by decide +kernel, by decide +kernel⟩, List.mem_of_getElem? (i := 657) rfl, List.mem_of_getElem? (i := 952) rfl, List.mem_of_getElem? (i := 953) rfl⟩
set_option maxRecDepth 100000 in
theorem lw_p70 : lw_okq (⟨"TaleBansModel", "isForbidden", "(II)Z"⟩, 38) := ⟨⟨by decide +kernel, by decide +kernel⟩, List.mem_of_getElem? (i := 657) rfl, List.mem_of_getElem? (i := 959) rfl, List.mem_of_getElem? (i := 960) rfl⟩
set_option maxRecDepth 100000 in
theorem lw_p71 : lw_okq (⟨"TaleBansModel", "areSo", "()Z"⟩, 38) := ⟨⟨by decide +kernel, by decide +kernel⟩, List.mem_of_getElem? (i := 657) rfl, List.mem_of_getElem? (i := 991) rfl, List.mem_of_getElem? (i := 992) rfl⟩
set_option maxRecDepth 100000 in
theorem lw_p72 : lw_okq (⟨"TaleBansModel", "noCell", "(II)I"⟩, 38) := ⟨⟨by decide +kernel, by decide +kernel⟩, List.mem_of_getElem? (i := 657) rfl, List.mem_of_getElem? (i := 1026) rfl, List.mem_of_getElem? (i := 1027) rfl⟩
set_option maxRecDepth 100000 in
theorem lw_p73 : lw_okq (⟨"TaleBansModel", "failedLong", "(I)J"⟩, 38) := ⟨⟨by decide +kernel, by decide +kernel⟩, List.mem_of_getElem? (i := 657) rfl, List.mem_of_getElem? (i := 1034) rfl, List.mem_of_getElem? (i := 1035) rfl⟩
set_option maxRecDepth 100000 in
theorem lw_p74 : lw_okq (⟨"TaleBansModel", "traced", "(I)V"⟩, 38) := ⟨⟨by decide +kernel, by decide +kernel⟩, List.mem_of_getElem? (i := 657) rfl, List.mem_of_getElem? (i := 1046) rfl, List.mem_of_getElem? (i := 1047) rfl⟩
def lw_privs_5 : List (MethodName × Nat) := [(⟨"TaleBansModel", "isRather", "(III)Z"⟩, 38), (⟨"TaleBansModel", "forbiddenIn", "(I)I"⟩, 38), (⟨"TaleBansModel", "isAlive", "(II)Z"⟩, 38), (⟨"TaleBansModel", "endOf", "(I)I"⟩, 38), (⟨"TaleBansModel", "refusedFor", "(II)I"⟩, 38), (⟨"TaleBansModel", "all", "()I"⟩, 38), (⟨"TaleBansModel", "isForbidden", "(II)Z"⟩, 38), (⟨"TaleBansModel", "areSo", "()Z"⟩, 38), (⟨"TaleBansModel", "noCell", "(II)I"⟩, 38), (⟨"TaleBansModel", "failedLong", "(I)J"⟩, 38), (⟨"TaleBansModel", "traced", "(I)V"⟩, 38)]
theorem lw_r5 : ∀ q ∈ lw_privs_5, lw_okq q := List.forall_mem_cons.mpr ⟨lw_p64, List.forall_mem_cons.mpr ⟨lw_p65, List.forall_mem_cons.mpr ⟨lw_p66, List.forall_mem_cons.mpr ⟨lw_p67, List.forall_mem_cons.mpr ⟨lw_p68, List.forall_mem_cons.mpr ⟨lw_p69, List.forall_mem_cons.mpr ⟨lw_p70, List.forall_mem_cons.mpr ⟨lw_p71, List.forall_mem_cons.mpr ⟨lw_p72, List.forall_mem_cons.mpr ⟨lw_p73, List.forall_mem_cons.mpr ⟨lw_p74, fun _ h => absurd h List.not_mem_nil⟩⟩⟩⟩⟩⟩⟩⟩⟩⟩⟩
def lw_privs : List (MethodName × Nat) := lw_privs_1 ++ (lw_privs_2 ++ (lw_privs_3 ++ (lw_privs_4 ++ (lw_privs_5))))
def lw_tbl : List Cond := k2_sels lw_privs ++ tables_1
theorem lw_privs_ok : ∀ q ∈ lw_privs, lw_okq q := by
  show ∀ q ∈ lw_privs_1 ++ (lw_privs_2 ++ (lw_privs_3 ++ (lw_privs_4 ++ (lw_privs_5)))), lw_okq q
  exact List.forall_mem_append.mpr ⟨lw_r1, List.forall_mem_append.mpr ⟨lw_r2, List.forall_mem_append.mpr ⟨lw_r3, List.forall_mem_append.mpr ⟨lw_r4, lw_r5⟩⟩⟩⟩
-- ===== end of PART A; then your names; then what follows =====
