section
-- ===== PART A: goes FIRST, ahead of the names: the tables' words, and 'selects' of the private methods out of them =====
/-- a private method of a class that the tables say can be made, by its rows of tables_1 -/
def lw_okq (q : MethodName × Nat) : Prop := (q.1.cls ≠ "java/lang/invoke/MethodHandle" ∧ q.1.cls ≠ "java/lang/invoke/VarHandle") ∧ Cond.instantiable q.1.cls q.2 ∈ tables_1 ∧ Cond.privateMethod q.1 ∈ tables_1 ∧ Cond.instanceMethod q.1 ∈ tables_1
theorem lw_p0 : lw_okq (⟨"PlateRegister", "arePlatesSound", "()Z"⟩, 12) := ⟨⟨by decide +kernel, by decide +kernel⟩, List.mem_of_getElem? (i := 22) (by decide +kernel), List.mem_of_getElem? (i := 94) (by decide +kernel), List.mem_of_getElem? (i := 95) (by decide +kernel)⟩
theorem lw_p1 : lw_okq (⟨"PlateRegister", "countVehiclesWith", "(I)I"⟩, 12) := ⟨⟨by decide +kernel, by decide +kernel⟩, List.mem_of_getElem? (i := 22) (by decide +kernel), List.mem_of_getElem? (i := 98) (by decide +kernel), List.mem_of_getElem? (i := 99) (by decide +kernel)⟩
theorem lw_p2 : lw_okq (⟨"PlateRegister", "placeByVehicles", "(II)I"⟩, 12) := ⟨⟨by decide +kernel, by decide +kernel⟩, List.mem_of_getElem? (i := 22) (by decide +kernel), List.mem_of_getElem? (i := 110) (by decide +kernel), List.mem_of_getElem? (i := 111) (by decide +kernel)⟩
theorem lw_p3 : lw_okq (⟨"PlateRegister", "areTaxesSound", "()Z"⟩, 12) := ⟨⟨by decide +kernel, by decide +kernel⟩, List.mem_of_getElem? (i := 22) (by decide +kernel), List.mem_of_getElem? (i := 126) (by decide +kernel), List.mem_of_getElem? (i := 127) (by decide +kernel)⟩
theorem lw_p4 : lw_okq (⟨"PlateRegister", "sumByQuarters", "()V"⟩, 12) := ⟨⟨by decide +kernel, by decide +kernel⟩, List.mem_of_getElem? (i := 22) (by decide +kernel), List.mem_of_getElem? (i := 130) (by decide +kernel), List.mem_of_getElem? (i := 131) (by decide +kernel)⟩
theorem lw_p5 : lw_okq (⟨"PlateRegister", "beginWithPaid", "([I)V"⟩, 12) := ⟨⟨by decide +kernel, by decide +kernel⟩, List.mem_of_getElem? (i := 22) (by decide +kernel), List.mem_of_getElem? (i := 134) (by decide +kernel), List.mem_of_getElem? (i := 135) (by decide +kernel)⟩
theorem lw_p6 : lw_okq (⟨"PlateRegister", "firstRoadDay", "(LPlateRegister$Vehicle;I)I"⟩, 12) := ⟨⟨by decide +kernel, by decide +kernel⟩, List.mem_of_getElem? (i := 22) (by decide +kernel), List.mem_of_getElem? (i := 141) (by decide +kernel), List.mem_of_getElem? (i := 142) (by decide +kernel)⟩
theorem lw_p7 : lw_okq (⟨"PlateRegister", "sumByDays", "()V"⟩, 12) := ⟨⟨by decide +kernel, by decide +kernel⟩, List.mem_of_getElem? (i := 22) (by decide +kernel), List.mem_of_getElem? (i := 161) (by decide +kernel), List.mem_of_getElem? (i := 162) (by decide +kernel)⟩
theorem lw_p8 : lw_okq (⟨"PlateRegister", "addDays", "(LPlateRegister$Vehicle;)V"⟩, 12) := ⟨⟨by decide +kernel, by decide +kernel⟩, List.mem_of_getElem? (i := 22) (by decide +kernel), List.mem_of_getElem? (i := 165) (by decide +kernel), List.mem_of_getElem? (i := 166) (by decide +kernel)⟩
theorem lw_p9 : lw_okq (⟨"java/lang/Throwable", "fillInStackTrace", "(I)Ljava/lang/Throwable;"⟩, 6) := ⟨⟨by decide +kernel, by decide +kernel⟩, List.mem_of_getElem? (i := 229) (by decide +kernel), List.mem_of_getElem? (i := 227) (by decide +kernel), List.mem_of_getElem? (i := 228) (by decide +kernel)⟩
theorem lw_p10 : lw_okq (⟨"PlateRegister", "requireKeeper", "(I)V"⟩, 12) := ⟨⟨by decide +kernel, by decide +kernel⟩, List.mem_of_getElem? (i := 22) (by decide +kernel), List.mem_of_getElem? (i := 314) (by decide +kernel), List.mem_of_getElem? (i := 315) (by decide +kernel)⟩
theorem lw_p11 : lw_okq (⟨"PlateRegister", "requireRoomForVehicle", "()V"⟩, 12) := ⟨⟨by decide +kernel, by decide +kernel⟩, List.mem_of_getElem? (i := 22) (by decide +kernel), List.mem_of_getElem? (i := 335) (by decide +kernel), List.mem_of_getElem? (i := 336) (by decide +kernel)⟩
theorem lw_p12 : lw_okq (⟨"PlateRegister", "requireRoomForPlate", "()V"⟩, 12) := ⟨⟨by decide +kernel, by decide +kernel⟩, List.mem_of_getElem? (i := 22) (by decide +kernel), List.mem_of_getElem? (i := 340) (by decide +kernel), List.mem_of_getElem? (i := 341) (by decide +kernel)⟩
theorem lw_p13 : lw_okq (⟨"PlateRegister", "enterVehicle", "(IC)LPlateRegister$Vehicle;"⟩, 12) := ⟨⟨by decide +kernel, by decide +kernel⟩, List.mem_of_getElem? (i := 22) (by decide +kernel), List.mem_of_getElem? (i := 345) (by decide +kernel), List.mem_of_getElem? (i := 346) (by decide +kernel)⟩
theorem lw_p14 : lw_okq (⟨"PlateRegister$Timeline", "widen", "()V"⟩, 3) := ⟨⟨by decide +kernel, by decide +kernel⟩, List.mem_of_getElem? (i := 354) (by decide +kernel), List.mem_of_getElem? (i := 407) (by decide +kernel), List.mem_of_getElem? (i := 408) (by decide +kernel)⟩
theorem lw_p15 : lw_okq (⟨"PlateRegister", "bringOnRoad", "(LPlateRegister$Vehicle;)V"⟩, 12) := ⟨⟨by decide +kernel, by decide +kernel⟩, List.mem_of_getElem? (i := 22) (by decide +kernel), List.mem_of_getElem? (i := 425) (by decide +kernel), List.mem_of_getElem? (i := 426) (by decide +kernel)⟩
def lw_privs_1 : List (MethodName × Nat) := [(⟨"PlateRegister", "arePlatesSound", "()Z"⟩, 12), (⟨"PlateRegister", "countVehiclesWith", "(I)I"⟩, 12), (⟨"PlateRegister", "placeByVehicles", "(II)I"⟩, 12), (⟨"PlateRegister", "areTaxesSound", "()Z"⟩, 12), (⟨"PlateRegister", "sumByQuarters", "()V"⟩, 12), (⟨"PlateRegister", "beginWithPaid", "([I)V"⟩, 12), (⟨"PlateRegister", "firstRoadDay", "(LPlateRegister$Vehicle;I)I"⟩, 12), (⟨"PlateRegister", "sumByDays", "()V"⟩, 12), (⟨"PlateRegister", "addDays", "(LPlateRegister$Vehicle;)V"⟩, 12), (⟨"java/lang/Throwable", "fillInStackTrace", "(I)Ljava/lang/Throwable;"⟩, 6), (⟨"PlateRegister", "requireKeeper", "(I)V"⟩, 12), (⟨"PlateRegister", "requireRoomForVehicle", "()V"⟩, 12), (⟨"PlateRegister", "requireRoomForPlate", "()V"⟩, 12), (⟨"PlateRegister", "enterVehicle", "(IC)LPlateRegister$Vehicle;"⟩, 12), (⟨"PlateRegister$Timeline", "widen", "()V"⟩, 3), (⟨"PlateRegister", "bringOnRoad", "(LPlateRegister$Vehicle;)V"⟩, 12)]
theorem lw_r1 : ∀ q ∈ lw_privs_1, lw_okq q := List.forall_mem_cons.mpr ⟨lw_p0, List.forall_mem_cons.mpr ⟨lw_p1, List.forall_mem_cons.mpr ⟨lw_p2, List.forall_mem_cons.mpr ⟨lw_p3, List.forall_mem_cons.mpr ⟨lw_p4, List.forall_mem_cons.mpr ⟨lw_p5, List.forall_mem_cons.mpr ⟨lw_p6, List.forall_mem_cons.mpr ⟨lw_p7, List.forall_mem_cons.mpr ⟨lw_p8, List.forall_mem_cons.mpr ⟨lw_p9, List.forall_mem_cons.mpr ⟨lw_p10, List.forall_mem_cons.mpr ⟨lw_p11, List.forall_mem_cons.mpr ⟨lw_p12, List.forall_mem_cons.mpr ⟨lw_p13, List.forall_mem_cons.mpr ⟨lw_p14, List.forall_mem_cons.mpr ⟨lw_p15, fun _ h => absurd h List.not_mem_nil⟩⟩⟩⟩⟩⟩⟩⟩⟩⟩⟩⟩⟩⟩⟩⟩
theorem lw_p16 : lw_okq (⟨"PlateRegister", "issuePlate", "()LPlateRegister$Plate;"⟩, 12) := ⟨⟨by decide +kernel, by decide +kernel⟩, List.mem_of_getElem? (i := 22) (by decide +kernel), List.mem_of_getElem? (i := 429) (by decide +kernel), List.mem_of_getElem? (i := 430) (by decide +kernel)⟩
theorem lw_p17 : lw_okq (⟨"PlateRegister", "mount", "(LPlateRegister$Plate;LPlateRegister$Vehicle;)V"⟩, 12) := ⟨⟨by decide +kernel, by decide +kernel⟩, List.mem_of_getElem? (i := 22) (by decide +kernel), List.mem_of_getElem? (i := 456) (by decide +kernel), List.mem_of_getElem? (i := 457) (by decide +kernel)⟩
theorem lw_p18 : lw_okq (⟨"PlateRegister", "vehicleAt", "(I)LPlateRegister$Vehicle;"⟩, 12) := ⟨⟨by decide +kernel, by decide +kernel⟩, List.mem_of_getElem? (i := 22) (by decide +kernel), List.mem_of_getElem? (i := 480) (by decide +kernel), List.mem_of_getElem? (i := 481) (by decide +kernel)⟩
theorem lw_p19 : lw_okq (⟨"PlateRegister", "requireDay", "(I)V"⟩, 12) := ⟨⟨by decide +kernel, by decide +kernel⟩, List.mem_of_getElem? (i := 22) (by decide +kernel), List.mem_of_getElem? (i := 526) (by decide +kernel), List.mem_of_getElem? (i := 527) (by decide +kernel)⟩
theorem lw_p20 : lw_okq (⟨"PlateRegister", "plateOf", "(LPlateRegister$Vehicle;)LPlateRegister$Plate;"⟩, 12) := ⟨⟨by decide +kernel, by decide +kernel⟩, List.mem_of_getElem? (i := 22) (by decide +kernel), List.mem_of_getElem? (i := 546) (by decide +kernel), List.mem_of_getElem? (i := 547) (by decide +kernel)⟩
theorem lw_p21 : lw_okq (⟨"PlateRegister", "plateOrNull", "(I)LPlateRegister$Plate;"⟩, 12) := ⟨⟨by decide +kernel, by decide +kernel⟩, List.mem_of_getElem? (i := 22) (by decide +kernel), List.mem_of_getElem? (i := 550) (by decide +kernel), List.mem_of_getElem? (i := 551) (by decide +kernel)⟩
theorem lw_p22 : lw_okq (⟨"PlateRegister", "unscrapped", "()I"⟩, 12) := ⟨⟨by decide +kernel, by decide +kernel⟩, List.mem_of_getElem? (i := 22) (by decide +kernel), List.mem_of_getElem? (i := 559) (by decide +kernel), List.mem_of_getElem? (i := 560) (by decide +kernel)⟩
theorem lw_p23 : lw_okq (⟨"PlateRegister", "requireRoomForNotice", "()V"⟩, 12) := ⟨⟨by decide +kernel, by decide +kernel⟩, List.mem_of_getElem? (i := 22) (by decide +kernel), List.mem_of_getElem? (i := 578) (by decide +kernel), List.mem_of_getElem? (i := 579) (by decide +kernel)⟩
theorem lw_p24 : lw_okq (⟨"PlateRegister", "enterNotice", "(ILPlateRegister$Vehicle;II)I"⟩, 12) := ⟨⟨by decide +kernel, by decide +kernel⟩, List.mem_of_getElem? (i := 22) (by decide +kernel), List.mem_of_getElem? (i := 583) (by decide +kernel), List.mem_of_getElem? (i := 584) (by decide +kernel)⟩
theorem lw_p25 : lw_okq (⟨"PlateRegister", "settle", "(LPlateRegister$Vehicle;)V"⟩, 12) := ⟨⟨by decide +kernel, by decide +kernel⟩, List.mem_of_getElem? (i := 22) (by decide +kernel), List.mem_of_getElem? (i := 621) (by decide +kernel), List.mem_of_getElem? (i := 622) (by decide +kernel)⟩
theorem lw_p26 : lw_okq (⟨"PlateRegister", "useFirstPair", "(LPlateRegister$Vehicle;)Z"⟩, 12) := ⟨⟨by decide +kernel, by decide +kernel⟩, List.mem_of_getElem? (i := 22) (by decide +kernel), List.mem_of_getElem? (i := 625) (by decide +kernel), List.mem_of_getElem? (i := 626) (by decide +kernel)⟩
theorem lw_p27 : lw_okq (⟨"PlateRegister", "buyerFor", "(LPlateRegister$Notice;)LPlateRegister$Notice;"⟩, 12) := ⟨⟨by decide +kernel, by decide +kernel⟩, List.mem_of_getElem? (i := 22) (by decide +kernel), List.mem_of_getElem? (i := 640) (by decide +kernel), List.mem_of_getElem? (i := 641) (by decide +kernel)⟩
theorem lw_p28 : lw_okq (⟨"PlateRegister", "noticeAt", "(I)LPlateRegister$Notice;"⟩, 12) := ⟨⟨by decide +kernel, by decide +kernel⟩, List.mem_of_getElem? (i := 22) (by decide +kernel), List.mem_of_getElem? (i := 665) (by decide +kernel), List.mem_of_getElem? (i := 666) (by decide +kernel)⟩
theorem lw_p29 : lw_okq (⟨"PlateRegister", "countOpen", "()I"⟩, 12) := ⟨⟨by decide +kernel, by decide +kernel⟩, List.mem_of_getElem? (i := 22) (by decide +kernel), List.mem_of_getElem? (i := 686) (by decide +kernel), List.mem_of_getElem? (i := 687) (by decide +kernel)⟩
theorem lw_p30 : lw_okq (⟨"PlateRegister", "plateAt", "(I)LPlateRegister$Plate;"⟩, 12) := ⟨⟨by decide +kernel, by decide +kernel⟩, List.mem_of_getElem? (i := 22) (by decide +kernel), List.mem_of_getElem? (i := 814) (by decide +kernel), List.mem_of_getElem? (i := 815) (by decide +kernel)⟩
theorem lw_p31 : lw_okq (⟨"PlateRegister", "requirePlateToChange", "(LPlateRegister$Vehicle;)LPlateRegister$Plate;"⟩, 12) := ⟨⟨by decide +kernel, by decide +kernel⟩, List.mem_of_getElem? (i := 22) (by decide +kernel), List.mem_of_getElem? (i := 828) (by decide +kernel), List.mem_of_getElem? (i := 829) (by decide +kernel)⟩
def lw_privs_2 : List (MethodName × Nat) := [(⟨"PlateRegister", "issuePlate", "()LPlateRegister$Plate;"⟩, 12), (⟨"PlateRegister", "mount", "(LPlateRegister$Plate;LPlateRegister$Vehicle;)V"⟩, 12), (⟨"PlateRegister", "vehicleAt", "(I)LPlateRegister$Vehicle;"⟩, 12), (⟨"PlateRegister", "requireDay", "(I)V"⟩, 12), (⟨"PlateRegister", "plateOf", "(LPlateRegister$Vehicle;)LPlateRegister$Plate;"⟩, 12), (⟨"PlateRegister", "plateOrNull", "(I)LPlateRegister$Plate;"⟩, 12), (⟨"PlateRegister", "unscrapped", "()I"⟩, 12), (⟨"PlateRegister", "requireRoomForNotice", "()V"⟩, 12), (⟨"PlateRegister", "enterNotice", "(ILPlateRegister$Vehicle;II)I"⟩, 12), (⟨"PlateRegister", "settle", "(LPlateRegister$Vehicle;)V"⟩, 12), (⟨"PlateRegister", "useFirstPair", "(LPlateRegister$Vehicle;)Z"⟩, 12), (⟨"PlateRegister", "buyerFor", "(LPlateRegister$Notice;)LPlateRegister$Notice;"⟩, 12), (⟨"PlateRegister", "noticeAt", "(I)LPlateRegister$Notice;"⟩, 12), (⟨"PlateRegister", "countOpen", "()I"⟩, 12), (⟨"PlateRegister", "plateAt", "(I)LPlateRegister$Plate;"⟩, 12), (⟨"PlateRegister", "requirePlateToChange", "(LPlateRegister$Vehicle;)LPlateRegister$Plate;"⟩, 12)]
theorem lw_r2 : ∀ q ∈ lw_privs_2, lw_okq q := List.forall_mem_cons.mpr ⟨lw_p16, List.forall_mem_cons.mpr ⟨lw_p17, List.forall_mem_cons.mpr ⟨lw_p18, List.forall_mem_cons.mpr ⟨lw_p19, List.forall_mem_cons.mpr ⟨lw_p20, List.forall_mem_cons.mpr ⟨lw_p21, List.forall_mem_cons.mpr ⟨lw_p22, List.forall_mem_cons.mpr ⟨lw_p23, List.forall_mem_cons.mpr ⟨lw_p24, List.forall_mem_cons.mpr ⟨lw_p25, List.forall_mem_cons.mpr ⟨lw_p26, List.forall_mem_cons.mpr ⟨lw_p27, List.forall_mem_cons.mpr ⟨lw_p28, List.forall_mem_cons.mpr ⟨lw_p29, List.forall_mem_cons.mpr ⟨lw_p30, List.forall_mem_cons.mpr ⟨lw_p31, fun _ h => absurd h List.not_mem_nil⟩⟩⟩⟩⟩⟩⟩⟩⟩⟩⟩⟩⟩⟩⟩⟩
theorem lw_p32 : lw_okq (⟨"PlateRegister", "requireVehicles", "()V"⟩, 12) := ⟨⟨by decide +kernel, by decide +kernel⟩, List.mem_of_getElem? (i := 22) (by decide +kernel), List.mem_of_getElem? (i := 939) (by decide +kernel), List.mem_of_getElem? (i := 940) (by decide +kernel)⟩
theorem lw_p33 : lw_okq (⟨"PlateRegisterModel", "fails", "(I)I"⟩, 33) := ⟨⟨by decide +kernel, by decide +kernel⟩, List.mem_of_getElem? (i := 953) (by decide +kernel), List.mem_of_getElem? (i := 1068) (by decide +kernel), List.mem_of_getElem? (i := 1069) (by decide +kernel)⟩
theorem lw_p34 : lw_okq (⟨"PlateRegisterModel", "adds", "(ICZ)I"⟩, 33) := ⟨⟨by decide +kernel, by decide +kernel⟩, List.mem_of_getElem? (i := 953) (by decide +kernel), List.mem_of_getElem? (i := 1087) (by decide +kernel), List.mem_of_getElem? (i := 1088) (by decide +kernel)⟩
theorem lw_p35 : lw_okq (⟨"PlateRegisterModel", "isKeeper", "(I)Z"⟩, 33) := ⟨⟨by decide +kernel, by decide +kernel⟩, List.mem_of_getElem? (i := 953) (by decide +kernel), List.mem_of_getElem? (i := 1091) (by decide +kernel), List.mem_of_getElem? (i := 1092) (by decide +kernel)⟩
theorem lw_p36 : lw_okq (⟨"PlateRegisterModel", "passesOn", "(III)V"⟩, 33) := ⟨⟨by decide +kernel, by decide +kernel⟩, List.mem_of_getElem? (i := 953) (by decide +kernel), List.mem_of_getElem? (i := 1098) (by decide +kernel), List.mem_of_getElem? (i := 1099) (by decide +kernel)⟩
theorem lw_p37 : lw_okq (⟨"PlateRegisterModel", "issues", "(I)I"⟩, 33) := ⟨⟨by decide +kernel, by decide +kernel⟩, List.mem_of_getElem? (i := 953) (by decide +kernel), List.mem_of_getElem? (i := 1102) (by decide +kernel), List.mem_of_getElem? (i := 1103) (by decide +kernel)⟩
theorem lw_p38 : lw_okq (⟨"PlateRegisterModel", "setsPlate", "(II)V"⟩, 33) := ⟨⟨by decide +kernel, by decide +kernel⟩, List.mem_of_getElem? (i := 953) (by decide +kernel), List.mem_of_getElem? (i := 1106) (by decide +kernel), List.mem_of_getElem? (i := 1107) (by decide +kernel)⟩
theorem lw_p39 : lw_okq (⟨"PlateRegisterModel", "setsRoad", "(IZ)V"⟩, 33) := ⟨⟨by decide +kernel, by decide +kernel⟩, List.mem_of_getElem? (i := 953) (by decide +kernel), List.mem_of_getElem? (i := 1110) (by decide +kernel), List.mem_of_getElem? (i := 1111) (by decide +kernel)⟩
theorem lw_p40 : lw_okq (⟨"PlateRegisterModel", "isVehicle", "(I)Z"⟩, 33) := ⟨⟨by decide +kernel, by decide +kernel⟩, List.mem_of_getElem? (i := 953) (by decide +kernel), List.mem_of_getElem? (i := 1122) (by decide +kernel), List.mem_of_getElem? (i := 1123) (by decide +kernel)⟩
theorem lw_p41 : lw_okq (⟨"PlateRegisterModel", "plate", "(II)I"⟩, 33) := ⟨⟨by decide +kernel, by decide +kernel⟩, List.mem_of_getElem? (i := 953) (by decide +kernel), List.mem_of_getElem? (i := 1130) (by decide +kernel), List.mem_of_getElem? (i := 1131) (by decide +kernel)⟩
theorem lw_p42 : lw_okq (⟨"PlateRegisterModel", "road", "(II)Z"⟩, 33) := ⟨⟨by decide +kernel, by decide +kernel⟩, List.mem_of_getElem? (i := 953) (by decide +kernel), List.mem_of_getElem? (i := 1134) (by decide +kernel), List.mem_of_getElem? (i := 1135) (by decide +kernel)⟩
theorem lw_p43 : lw_okq (⟨"PlateRegisterModel", "isDay", "(I)Z"⟩, 33) := ⟨⟨by decide +kernel, by decide +kernel⟩, List.mem_of_getElem? (i := 953) (by decide +kernel), List.mem_of_getElem? (i := 1142) (by decide +kernel), List.mem_of_getElem? (i := 1143) (by decide +kernel)⟩
theorem lw_p44 : lw_okq (⟨"PlateRegisterModel", "blocked", "(I)Z"⟩, 33) := ⟨⟨by decide +kernel, by decide +kernel⟩, List.mem_of_getElem? (i := 953) (by decide +kernel), List.mem_of_getElem? (i := 1150) (by decide +kernel), List.mem_of_getElem? (i := 1151) (by decide +kernel)⟩
theorem lw_p45 : lw_okq (⟨"PlateRegisterModel", "enters", "(IIII)I"⟩, 33) := ⟨⟨by decide +kernel, by decide +kernel⟩, List.mem_of_getElem? (i := 953) (by decide +kernel), List.mem_of_getElem? (i := 1166) (by decide +kernel), List.mem_of_getElem? (i := 1167) (by decide +kernel)⟩
theorem lw_p46 : lw_okq (⟨"PlateRegisterModel", "crosses", "(I)V"⟩, 33) := ⟨⟨by decide +kernel, by decide +kernel⟩, List.mem_of_getElem? (i := 953) (by decide +kernel), List.mem_of_getElem? (i := 1170) (by decide +kernel), List.mem_of_getElem? (i := 1171) (by decide +kernel)⟩
theorem lw_p47 : lw_okq (⟨"PlateRegisterModel", "usesPair", "(I)Z"⟩, 33) := ⟨⟨by decide +kernel, by decide +kernel⟩, List.mem_of_getElem? (i := 953) (by decide +kernel), List.mem_of_getElem? (i := 1174) (by decide +kernel), List.mem_of_getElem? (i := 1175) (by decide +kernel)⟩
def lw_privs_3 : List (MethodName × Nat) := [(⟨"PlateRegister", "requireVehicles", "()V"⟩, 12), (⟨"PlateRegisterModel", "fails", "(I)I"⟩, 33), (⟨"PlateRegisterModel", "adds", "(ICZ)I"⟩, 33), (⟨"PlateRegisterModel", "isKeeper", "(I)Z"⟩, 33), (⟨"PlateRegisterModel", "passesOn", "(III)V"⟩, 33), (⟨"PlateRegisterModel", "issues", "(I)I"⟩, 33), (⟨"PlateRegisterModel", "setsPlate", "(II)V"⟩, 33), (⟨"PlateRegisterModel", "setsRoad", "(IZ)V"⟩, 33), (⟨"PlateRegisterModel", "isVehicle", "(I)Z"⟩, 33), (⟨"PlateRegisterModel", "plate", "(II)I"⟩, 33), (⟨"PlateRegisterModel", "road", "(II)Z"⟩, 33), (⟨"PlateRegisterModel", "isDay", "(I)Z"⟩, 33), (⟨"PlateRegisterModel", "blocked", "(I)Z"⟩, 33), (⟨"PlateRegisterModel", "enters", "(IIII)I"⟩, 33), (⟨"PlateRegisterModel", "crosses", "(I)V"⟩, 33), (⟨"PlateRegisterModel", "usesPair", "(I)Z"⟩, 33)]
theorem lw_r3 : ∀ q ∈ lw_privs_3, lw_okq q := List.forall_mem_cons.mpr ⟨lw_p32, List.forall_mem_cons.mpr ⟨lw_p33, List.forall_mem_cons.mpr ⟨lw_p34, List.forall_mem_cons.mpr ⟨lw_p35, List.forall_mem_cons.mpr ⟨lw_p36, List.forall_mem_cons.mpr ⟨lw_p37, List.forall_mem_cons.mpr ⟨lw_p38, List.forall_mem_cons.mpr ⟨lw_p39, List.forall_mem_cons.mpr ⟨lw_p40, List.forall_mem_cons.mpr ⟨lw_p41, List.forall_mem_cons.mpr ⟨lw_p42, List.forall_mem_cons.mpr ⟨lw_p43, List.forall_mem_cons.mpr ⟨lw_p44, List.forall_mem_cons.mpr ⟨lw_p45, List.forall_mem_cons.mpr ⟨lw_p46, List.forall_mem_cons.mpr ⟨lw_p47, fun _ h => absurd h List.not_mem_nil⟩⟩⟩⟩⟩⟩⟩⟩⟩⟩⟩⟩⟩⟩⟩⟩
theorem lw_p48 : lw_okq (⟨"PlateRegisterModel", "fit", "(II)Z"⟩, 33) := ⟨⟨by decide +kernel, by decide +kernel⟩, List.mem_of_getElem? (i := 953) (by decide +kernel), List.mem_of_getElem? (i := 1178) (by decide +kernel), List.mem_of_getElem? (i := 1179) (by decide +kernel)⟩
theorem lw_p49 : lw_okq (⟨"PlateRegisterModel", "present", "(I)I"⟩, 33) := ⟨⟨by decide +kernel, by decide +kernel⟩, List.mem_of_getElem? (i := 953) (by decide +kernel), List.mem_of_getElem? (i := 1182) (by decide +kernel), List.mem_of_getElem? (i := 1183) (by decide +kernel)⟩
theorem lw_p50 : lw_okq (⟨"PlateRegisterModel", "keeper", "(II)I"⟩, 33) := ⟨⟨by decide +kernel, by decide +kernel⟩, List.mem_of_getElem? (i := 953) (by decide +kernel), List.mem_of_getElem? (i := 1186) (by decide +kernel), List.mem_of_getElem? (i := 1187) (by decide +kernel)⟩
theorem lw_p51 : lw_okq (⟨"PlateRegisterModel", "lastPass", "(I)I"⟩, 33) := ⟨⟨by decide +kernel, by decide +kernel⟩, List.mem_of_getElem? (i := 953) (by decide +kernel), List.mem_of_getElem? (i := 1190) (by decide +kernel), List.mem_of_getElem? (i := 1191) (by decide +kernel)⟩
theorem lw_p52 : lw_okq (⟨"PlateRegisterModel", "isNotice", "(I)Z"⟩, 33) := ⟨⟨by decide +kernel, by decide +kernel⟩, List.mem_of_getElem? (i := 953) (by decide +kernel), List.mem_of_getElem? (i := 1202) (by decide +kernel), List.mem_of_getElem? (i := 1203) (by decide +kernel)⟩
theorem lw_p53 : lw_okq (⟨"PlateRegisterModel", "open", "(I)I"⟩, 33) := ⟨⟨by decide +kernel, by decide +kernel⟩, List.mem_of_getElem? (i := 953) (by decide +kernel), List.mem_of_getElem? (i := 1206) (by decide +kernel), List.mem_of_getElem? (i := 1207) (by decide +kernel)⟩
theorem lw_p54 : lw_okq (⟨"PlateRegisterModel", "isAsked", "(I)Z"⟩, 33) := ⟨⟨by decide +kernel, by decide +kernel⟩, List.mem_of_getElem? (i := 953) (by decide +kernel), List.mem_of_getElem? (i := 1222) (by decide +kernel), List.mem_of_getElem? (i := 1223) (by decide +kernel)⟩
theorem lw_p55 : lw_okq (⟨"PlateRegisterModel", "passesOf", "(I)I"⟩, 33) := ⟨⟨by decide +kernel, by decide +kernel⟩, List.mem_of_getElem? (i := 953) (by decide +kernel), List.mem_of_getElem? (i := 1239) (by decide +kernel), List.mem_of_getElem? (i := 1240) (by decide +kernel)⟩
theorem lw_p56 : lw_okq (⟨"PlateRegisterModel", "place", "(IC)I"⟩, 33) := ⟨⟨by decide +kernel, by decide +kernel⟩, List.mem_of_getElem? (i := 953) (by decide +kernel), List.mem_of_getElem? (i := 1259) (by decide +kernel), List.mem_of_getElem? (i := 1260) (by decide +kernel)⟩
theorem lw_p57 : lw_okq (⟨"PlateRegisterModel", "isPlate", "(I)Z"⟩, 33) := ⟨⟨by decide +kernel, by decide +kernel⟩, List.mem_of_getElem? (i := 953) (by decide +kernel), List.mem_of_getElem? (i := 1279) (by decide +kernel), List.mem_of_getElem? (i := 1280) (by decide +kernel)⟩
theorem lw_p58 : lw_okq (⟨"PlateRegisterModel", "kept", "(I)Z"⟩, 33) := ⟨⟨by decide +kernel, by decide +kernel⟩, List.mem_of_getElem? (i := 953) (by decide +kernel), List.mem_of_getElem? (i := 1283) (by decide +kernel), List.mem_of_getElem? (i := 1284) (by decide +kernel)⟩
theorem lw_p59 : lw_okq (⟨"PlateRegisterModel", "isIssued", "(I)Z"⟩, 33) := ⟨⟨by decide +kernel, by decide +kernel⟩, List.mem_of_getElem? (i := 953) (by decide +kernel), List.mem_of_getElem? (i := 1295) (by decide +kernel), List.mem_of_getElem? (i := 1296) (by decide +kernel)⟩
theorem lw_p60 : lw_okq (⟨"PlateRegisterModel", "vehicle", "(II)I"⟩, 33) := ⟨⟨by decide +kernel, by decide +kernel⟩, List.mem_of_getElem? (i := 953) (by decide +kernel), List.mem_of_getElem? (i := 1299) (by decide +kernel), List.mem_of_getElem? (i := 1300) (by decide +kernel)⟩
theorem lw_p61 : lw_okq (⟨"PlateRegisterModel", "first", "(II)I"⟩, 33) := ⟨⟨by decide +kernel, by decide +kernel⟩, List.mem_of_getElem? (i := 953) (by decide +kernel), List.mem_of_getElem? (i := 1328) (by decide +kernel), List.mem_of_getElem? (i := 1329) (by decide +kernel)⟩
theorem lw_p62 : lw_okq (⟨"PlateRegisterModel", "debt", "(I)I"⟩, 33) := ⟨⟨by decide +kernel, by decide +kernel⟩, List.mem_of_getElem? (i := 953) (by decide +kernel), List.mem_of_getElem? (i := 1339) (by decide +kernel), List.mem_of_getElem? (i := 1340) (by decide +kernel)⟩
def lw_privs_4 : List (MethodName × Nat) := [(⟨"PlateRegisterModel", "fit", "(II)Z"⟩, 33), (⟨"PlateRegisterModel", "present", "(I)I"⟩, 33), (⟨"PlateRegisterModel", "keeper", "(II)I"⟩, 33), (⟨"PlateRegisterModel", "lastPass", "(I)I"⟩, 33), (⟨"PlateRegisterModel", "isNotice", "(I)Z"⟩, 33), (⟨"PlateRegisterModel", "open", "(I)I"⟩, 33), (⟨"PlateRegisterModel", "isAsked", "(I)Z"⟩, 33), (⟨"PlateRegisterModel", "passesOf", "(I)I"⟩, 33), (⟨"PlateRegisterModel", "place", "(IC)I"⟩, 33), (⟨"PlateRegisterModel", "isPlate", "(I)Z"⟩, 33), (⟨"PlateRegisterModel", "kept", "(I)Z"⟩, 33), (⟨"PlateRegisterModel", "isIssued", "(I)Z"⟩, 33), (⟨"PlateRegisterModel", "vehicle", "(II)I"⟩, 33), (⟨"PlateRegisterModel", "first", "(II)I"⟩, 33), (⟨"PlateRegisterModel", "debt", "(I)I"⟩, 33)]
theorem lw_r4 : ∀ q ∈ lw_privs_4, lw_okq q := List.forall_mem_cons.mpr ⟨lw_p48, List.forall_mem_cons.mpr ⟨lw_p49, List.forall_mem_cons.mpr ⟨lw_p50, List.forall_mem_cons.mpr ⟨lw_p51, List.forall_mem_cons.mpr ⟨lw_p52, List.forall_mem_cons.mpr ⟨lw_p53, List.forall_mem_cons.mpr ⟨lw_p54, List.forall_mem_cons.mpr ⟨lw_p55, List.forall_mem_cons.mpr ⟨lw_p56, List.forall_mem_cons.mpr ⟨lw_p57, List.forall_mem_cons.mpr ⟨lw_p58, List.forall_mem_cons.mpr ⟨lw_p59, List.forall_mem_cons.mpr ⟨lw_p60, List.forall_mem_cons.mpr ⟨lw_p61, List.forall_mem_cons.mpr ⟨lw_p62, fun _ h => absurd h List.not_mem_nil⟩⟩⟩⟩⟩⟩⟩⟩⟩⟩⟩⟩⟩⟩⟩
def lw_privs : List (MethodName × Nat) := lw_privs_1 ++ (lw_privs_2 ++ (lw_privs_3 ++ (lw_privs_4)))
def lw_tbl : List Cond := k2_sels lw_privs ++ tables_1
theorem lw_privs_ok : ∀ q ∈ lw_privs, lw_okq q := by
  show ∀ q ∈ lw_privs_1 ++ (lw_privs_2 ++ (lw_privs_3 ++ (lw_privs_4))), lw_okq q
  exact List.forall_mem_append.mpr ⟨lw_r1, List.forall_mem_append.mpr ⟨lw_r2, List.forall_mem_append.mpr ⟨lw_r3, lw_r4⟩⟩⟩
/-- the streams that the claim lets the run draw from -/
abbrev lw_cs : List Choice := [Jvm.Choice.named "NaN.bits"]
theorem lw_bits : nanBits ∈ lw_cs := by first | decide | exact List.mem_cons_self | simp [lw_cs, nanBits]
end
section
/-! ===== BEGIN words of one list among another's, by their places ===== -/
theorem goodIn_r {big : List Cond} (ws : List Cond) (ps : List Nat) (hp : ws = ps.filterMap (fun i => big[i]?)) (h : ws.all goodWord = true) : GoodIn big ws := by
  intro w hw
  have h1 := List.all_eq_true.mp h w hw
  rw [hp] at hw
  obtain ⟨i, -, hi⟩ := List.mem_filterMap.mp hw
  have hm : w ∈ big := by first | exact List.mem_of_getElem? hi | exact List.getElem?_mem hi
  exact ⟨hm, good_of_word h1⟩
theorem goodIn_app {big a b : List Cond} (ha : GoodIn big a) (hb : GoodIn big b) : GoodIn big (a ++ b) := fun w h => (List.mem_append.mp h).elim (ha w) (hb w)
theorem goodIn_ca {big a b : List Cond} {c : Cond} (ha : GoodIn big (c :: a)) (hb : GoodIn big b) : GoodIn big (c :: (a ++ b)) := fun w h => (List.mem_cons.mp h).elim (fun e => ha w (List.mem_cons.mpr (Or.inl e))) (fun h => (List.mem_append.mp h).elim (fun h => ha w (List.mem_cons.mpr (Or.inr h))) (hb w))
theorem goodIn_sub {big ws : List Cond} (hm : ∀ w ∈ ws, w ∈ big) (h : ws.all goodWord = true) : GoodIn big ws := fun w hw => ⟨hm w hw, good_of_word (List.all_eq_true.mp h w hw)⟩
/-! ===== END ===== -/

/-! ===== BEGIN exceptions that leave a method, and their catching by the caller (launches without stack traces) ===== -/
section VXA
/-! The laws vx_back, vx_callV, vx_callS, vx_callSW, vx_throw0, vx_throwS follow proofs of the library, with one case more: JvmDerived/Free/Laws.lean (Back.of_free), Shelf42/LK1.lean (callV, callS), Shelf/KitTraced.lean (throwNew0V, throwNewS). -/
/-- where a method has thrown q: the class by its name, the cell, what was written, the world -/
def vx_T (XC : String → State → State → Prop) (st : State) (q : Addr) (t : State) (mc ms : Nat) (free : Addr → Prop) : Prop :=
  ∃ (E : String) (ce : Cell) (L : List Loc), XC E st t ∧ t.heap[q]? = some ce ∧ ce.vm = .none ∧ st.vm.findClass E = some ce.cls ∧ st.WarmedH t.vm ∧ st.sameButNew ({ t with vm := st.vm } : State) L mc ms ∧ ∀ z ∈ L, free z.base
def vx_Q (Qc : Array Value → State → Outcome → State → Prop) (XC : String → State → State → Prop) (mc ms : Nat) (free : Addr → Prop) : Array Value → State → Outcome → State → Prop := fun a st o t =>
  (Qc a st o t ∧ ∃ L, FrameEnd st o t L mc ms ∧ ∀ q ∈ L, free q.base) ∨ ∃ q, o = .threw q ∧ vx_T XC st q t mc ms free
/-- a callee that returns or throws -/
def vx_Met (l : Launch) (y : MethodName) (ws : List Cond) (rm : Room) (Pc : Array Value → State → Prop) (Qc : Array Value → State → Outcome → State → Prop) (XC : String → State → State → Prop) (mc ms : Nat) (free : Addr → Prop) : Prop :=
  MetFree l y (headSpec ws rm) Pc (fun _ _ _ _ _ => True) (vx_Q Qc XC mc ms free)
def vx_Post (XC : String → State → State → Prop) (mc ms : Nat) (free : Addr → Prop) : Pt → Array Value → Addr → Pt → Prop := fun A a q B =>
  ∃ (g : JFrame) (mk : MethodId) (t : State) (L : List Loc) (E : String) (ce : Cell), B.U.heap = t.heap ∧ B.U.vm = t.vm ∧ XC E (A.U.calling g mk a) t ∧ t.heap[q]? = some ce ∧ ce.vm = .none ∧ A.U.vm.findClass E = some ce.cls ∧ B.locs = A.locs ++ L ∧ (∀ z ∈ L, free z.base) ∧ B.cells = A.cells + mc ∧ B.slots = A.slots + ms
def vx_Back (l : Launch) (R : Room) (p : Program) (e : Env) (below : List Frame) (s : State) (sargs : Array Value) (y : MethodName) (len W9 : Nat)
    (Pre : Pt → Array Value → Prop) (Post : Pt → Array Value → Option Value → Pt → Prop) (PostX : Pt → Array Value → Addr → Pt → Prop) : Prop :=
  ∀ (m : MethodId) (meth : Method) (c : Code) (A : Pt) (g : JFrame) (ig : Instr) (mk : MethodId) (a : Array Value),
    Stand p l e R s m sargs below meth c A.U A.locs A.cells A.slots → g.method = m → g.locals.size = c.maxLocals → decode c.code g.pc = .ok (ig, len) →
    2 * g.monitorRoom + (g.stack.map fun v => v.category).sum ≤ W9 → A.U.methodNamed? y = some mk → Pre A a →
    (∃ (v : Option Value) (B : Pt), Stand p l e R s m sargs below meth c B.U B.locs B.cells B.slots ∧ Post A a v B ∧
      Steps p.tables e below (doInvoke e (A.U.setTop g) [] mk a).1 (B.U.setTop { g with pc := g.pc + len, stack := v.toList ++ g.stack })) ∨
    (∃ (q : Addr) (B : Pt), Stand p l e R s m sargs below meth c B.U B.locs B.cells B.slots ∧ PostX A a q B ∧
      Steps p.tables e below (doInvoke e (A.U.setTop g) [] mk a).1 ((B.U.setTop g).pushFrame (.throwing q)))
section Payer
variable {l : Launch} {R : Room} {p : Program} {e : Env} {below : List Frame} {s : State} {sargs : Array Value} {y : MethodName} {len W9 : Nat}
theorem vx_back {ws : List Cond} {rm : Room} {Pc : Array Value → State → Prop} {Qc : Array Value → State → Outcome → State → Prop} {XC : String → State → State → Prop} {mc ms : Nat} {free : Addr → Prop} {bytes : ByteArray} {maxL : Nat} {ret : Option FieldType}
    (hM : vx_Met l y ws rm Pc Qc XC mc ms free) (hblind : FrameBlind Pc) (hrc : rm.cells = mc) (hrs : rm.slots = ms)
    (hframes : rm.frames + 1 ≤ R.frames) (hlocals : W9 + (maxL + 11) + rm.locals ≤ R.locals)
    (hws : ∀ w ∈ ws, ∀ a' U, s.WarmedH U.vm → w.before a' U = true) (hcode : Cond.code y bytes maxL ret ∈ ws) (hinit : ∀ a' U, s.WarmedH U.vm → (Cond.initialized y.cls).before a' U = true) :
    vx_Back l R p e below s sargs y len W9 (PreOf R mc ms Pc) (PostOf Qc mc ms free) (vx_Post XC mc ms free) := by
  intro m meth c A g ig mk a X hg hsize hdg hW hn hp
  have h1 : (headSpec ws rm).pre.before a A.U = true := atoms_intro fun w hw => hws w hw _ _ X.warmed
  have h2 : (Cond.code y bytes maxL ret).before a A.U = true := hws _ hcode _ _ X.warmed
  have h3 : (Cond.initialized y.cls).before a A.U = true := hinit _ _ X.warmed
  have h4 : A.cells + (headSpec ws rm).room.cells ≤ R.cells := by rw [show (headSpec ws rm).room.cells = mc from hrc]; exact hp.1
  have h5 : A.slots + (headSpec ws rm).room.slots ≤ R.slots := by rw [show (headSpec ws rm).room.slots = ms from hrs]; exact hp.2.1
  have hPc : Pc a (A.U.calling g mk a) := hblind _ _ _ _ hp.2.2
  obtain ⟨U, Ls, c0, s0⟩ := A
  dsimp only [Pt.U, Pt.locs, Pt.cells, Pt.slots] at h1 h2 h3 h4 h5 X hn hPc ⊢
  obtain ⟨methY, cY, hmY, hcY, -, hlY, -, -, -, -⟩ := Cond.code_spec hn h2
  obtain ⟨kY, hkY, -⟩ := className_of_methodNamed hn
  have hinitY : kY.init = .initialized := Cond.initialized_spec (findClass_of_methodNamed hn) hkY h3
  have h : At U g.method c below := by rw [hg]; exact X.here
  have hlocals9 : W9 + (maxL + 11) + (headSpec ws rm).room.locals ≤ R.locals := hlocals
  have happ : (headSpec ws rm).appliesLoose y e.platform (U.calling g mk a) = true :=
    Spec.appliesLoose_calling (g := g) h hdg hn hkY hinitY
      (X.room_calling (g := g) (R' := (headSpec ws rm).room) hsize hmY hcY hframes (by rw [hlY]; omega) h4 h5) h1
  obtain ⟨mid, hmid⟩ := h.above
  have hfr : (U.setTop g).frames = (.java g :: mid) ++ below := by rw [State.frames_setTop' g h.top, hmid]; rfl
  obtain ⟨o, s₂, hsteps, -, hend, hq⟩ := Steps.callFree hM p X.admits X.cas X.clock (acts := []) hfr happ hPc trivial
  have hq' : vx_Q Qc XC mc ms free a (U.calling g mk a) o s₂ := hq
  rw [State.frames_setTop' g h.top] at hend
  obtain ⟨g₀, hg0⟩ := Option.isSome_iff_exists.mp h.top
  obtain ⟨r, hr⟩ := State.topJava?_eq_some.mp hg0
  have hr' : (({ U with heap := s₂.heap, slotsUsed := s₂.slotsUsed } : State).setVm s₂.vm).frames = .java g₀ :: r := hr
  rcases hq' with ⟨hqc, L, hfe, hL⟩ | ⟨q, rfl, E, ce, L, hx, hce, hcv, hcl, hW₂, hsm, hL⟩
  · obtain ⟨⟨v, rfl⟩, hW₂, e2, q2, q3, q4, q5, q6⟩ := id hfe
    have e3 : s₂ = ({ (U.calling g mk a).setFrames s₂.frames with heap := s₂.heap, slotsUsed := s₂.slotsUsed } : State).setVm s₂.vm := by
      have : s₂ = ({ s₂ with vm := (U.calling g mk a).vm } : State).setVm s₂.vm := rfl
      rw [e2] at this
      exact this
    obtain ⟨c₂, i₂, len₂, hc₂, hd₂, hf₂⟩ := hend
    have hW' : U.WarmedH s₂.vm := hW₂
    have hcc : c₂ = c := by
      have h1 : s₂.code? g.method = U.code? g.method := by
        rw [State.code?_eq, State.code?_eq, hW'.alike.method?]
      exact Option.some.inj (hc₂.symm.trans (h1.trans h.code))
    subst hcc
    have hlen : len₂ = len := by rw [hdg] at hd₂; cases hd₂; rfl
    subst hlen
    have hs₂ : s₂ = (({ U with heap := s₂.heap, slotsUsed := s₂.slotsUsed } : State).setVm s₂.vm).setTop { g with pc := g.pc + len₂, stack := v.toList ++ g.stack } := by
      refine e3.trans ?_
      rw [hf₂, State.calling_eq h.top, State.setFrames_setFrames, State.setTop_of_frames _ hr', hr]
      rfl
    have hsame : U.sameButNew ({ U with heap := s₂.heap, slotsUsed := s₂.slotsUsed } : State) L mc ms := by
      refine ⟨?_, q2, q3, q4, q5, q6⟩
      obtain ⟨t, ht, -⟩ := State.frames_cons hr
      show ({ U with heap := s₂.heap, slotsUsed := s₂.slotsUsed } : State) = { U.setFrames U.frames with heap := s₂.heap, slotsUsed := s₂.slotsUsed }
      rw [State.setFrames_self ht]
    subst hg
    refine Or.inl ⟨v, ⟨(({ U with heap := s₂.heap, slotsUsed := s₂.slotsUsed } : State).setVm s₂.vm), Ls ++ L, c0 + mc, s0 + ms⟩,
      ⟨X.admits, X.cas, X.clock, X.frames, X.room, X.hears, X.method, X.code, (X.here.setHeapUsed s₂.heap s₂.slotsUsed).setVm hW'.alike, X.tail, State.WarmedH.trans X.warmed hW', X.limits, X.bytes, X.same.trans (hsame.setVm s.vm)⟩,
      ⟨g, mk, s₂, L, rfl, rfl, hqc, rfl, hL, rfl, rfl⟩, ?_⟩
    show Steps p.tables e below _ ((({ U with heap := s₂.heap, slotsUsed := s₂.slotsUsed } : State).setVm s₂.vm).setTop { g with pc := g.pc + len₂, stack := v.toList ++ g.stack })
    rw [← hs₂]
    exact hsteps
  · obtain ⟨e2, q2, q3, q4, q5, q6⟩ := id hsm
    have e3 : s₂ = ({ (U.calling g mk a).setFrames s₂.frames with heap := s₂.heap, slotsUsed := s₂.slotsUsed } : State).setVm s₂.vm := by
      have : s₂ = ({ s₂ with vm := (U.calling g mk a).vm } : State).setVm s₂.vm := rfl
      rw [e2] at this
      exact this
    have hf₂ : s₂.frames = .throwing q :: .java g :: U.frames.tail := hend
    have hW' : U.WarmedH s₂.vm := hW₂
    have hs₂ : s₂ = ((({ U with heap := s₂.heap, slotsUsed := s₂.slotsUsed } : State).setVm s₂.vm).setTop g).pushFrame (.throwing q) := by
      refine e3.trans ?_
      rw [hf₂, State.calling_eq h.top, State.setFrames_setFrames, State.pushFrame, State.frames_setTop _ hr', State.setTop_of_frames _ hr', State.setFrames_setFrames, hr]
      rfl
    have hsame : U.sameButNew ({ U with heap := s₂.heap, slotsUsed := s₂.slotsUsed } : State) L mc ms := by
      refine ⟨?_, q2, q3, q4, q5, q6⟩
      obtain ⟨t, ht, -⟩ := State.frames_cons hr
      show ({ U with heap := s₂.heap, slotsUsed := s₂.slotsUsed } : State) = { U.setFrames U.frames with heap := s₂.heap, slotsUsed := s₂.slotsUsed }
      rw [State.setFrames_self ht]
    subst hg
    refine Or.inr ⟨q, ⟨(({ U with heap := s₂.heap, slotsUsed := s₂.slotsUsed } : State).setVm s₂.vm), Ls ++ L, c0 + mc, s0 + ms⟩,
      ⟨X.admits, X.cas, X.clock, X.frames, X.room, X.hears, X.method, X.code, (X.here.setHeapUsed s₂.heap s₂.slotsUsed).setVm hW'.alike, X.tail, State.WarmedH.trans X.warmed hW', X.limits, X.bytes, X.same.trans (hsame.setVm s.vm)⟩,
      ⟨g, mk, s₂, L, E, ce, rfl, rfl, hx, hce, hcv, hcl, rfl, hL, rfl, rfl⟩, ?_⟩
    show Steps p.tables e below _ (((({ U with heap := s₂.heap, slotsUsed := s₂.slotsUsed } : State).setVm s₂.vm).setTop g).pushFrame (.throwing q))
    rw [← hs₂]
    exact hsteps
end Payer
section Calls
variable {p : Program} {l : Launch} {e : Env} {R : Room} {s : State} {m : MethodId} {args : Array Value} {below : List Frame} {meth : Method} {c : Code} {T : State} {locs : List Loc} {cells slots : Nat}
theorem vx_callV (X : Stand p l e R s m args below meth c T locs cells slots) (hexec : p.tables.exec = Jvm.exec) {own C : String} {index : Nat} {y : MethodName} {bytes : ByteArray} {maxL : Nat} {ret : Option FieldType}
    (hown : s.vm.findClass own = some m.cls) (hlink : (Cond.methodLink own index y).before args s = true) (hinst : (Cond.instanceMethod y).before args s = true) (hsel : (Cond.selects C y y).before args s = true)
    (hcode : (Cond.code y bytes maxL ret).before args s = true) (hy : y.cls ≠ "java/lang/invoke/MethodHandle" ∧ y.cls ≠ "java/lang/invoke/VarHandle")
    {W9 : Nat} {Pre : Pt → Array Value → Prop} {Post : Pt → Array Value → Option Value → Pt → Prop} {PostX : Pt → Array Value → Addr → Pt → Prop} (hK : vx_Back l R p e below s args y 3 W9 Pre Post PostX)
    {b : Addr} {cellB : Cell} (hcell : T.heap[b]? = some cellB) (hobj : cellB.vm.isStatics = false) (hcls : s.vm.findClass C = some cellB.cls)
    {g : JFrame} (hg : g.method = m) (hsize : g.locals.size = c.maxLocals) {argsL rest : List Value} (hlen : ∀ sig, parseMethodDescriptor y.desc = some sig → argsL.length = sig.parameters.length)
    (hstack : g.stack = argsL.reverse ++ .ref b :: rest) (hW : 2 * g.monitorRoom + (rest.map fun v => v.category).sum ≤ W9) (hdg : decode c.code g.pc = .ok (.invokevirtual index, 3))
    (hpre : ∀ vm₁, s.WarmedH vm₁ → Pre ⟨T.setVm vm₁, locs, cells, slots⟩ (Value.ref b :: argsL).toArray) :
    (∃ (v : Option Value) (vm₁ : Vm) (B : Pt), s.WarmedH vm₁ ∧ Stand p l e R s m args below meth c B.U B.locs B.cells B.slots ∧ Post ⟨T.setVm vm₁, locs, cells, slots⟩ (Value.ref b :: argsL).toArray v B ∧
      ∀ target, Steps p.tables e below (B.U.setTop { g with pc := g.pc + 3, stack := v.toList ++ rest }) target → Steps p.tables e below (T.setTop g) target) ∨
    (∃ (q : Addr) (vm₁ : Vm) (B : Pt), s.WarmedH vm₁ ∧ Stand p l e R s m args below meth c B.U B.locs B.cells B.slots ∧ PostX ⟨T.setVm vm₁, locs, cells, slots⟩ (Value.ref b :: argsL).toArray q B ∧
      Steps p.tables e below (T.setTop g) ((B.U.setTop { g with stack := rest }).pushFrame (.throwing q))) := by
  obtain ⟨mk, methM, hnamed, hmethM, hstM, habM⟩ := Cond.instanceMethod_spec hinst
  obtain ⟨methM', cM, hmethM', -, -, -, -, -, -, hsigM⟩ := Cond.code_spec hnamed hcode
  cases hmethM.symm.trans hmethM'
  obtain ⟨c2, r2, m2, q1, q2, q3, q4, kP, hkP, hkPi⟩ := Cond.selects_spec hsel
  cases hcls.symm.trans q1
  cases (State.methodFound?_of_named hnamed hy).symm.trans q2
  cases hnamed.symm.trans q3
  have hselP : selectMethod e.platform s.vm cellB.cls mk = .method mk := by rw [Launch.admits_selectMethod X.admits]; exact q4
  obtain ⟨vm₁, X₁, hstep₁⟩ := X.invokevirtual hexec hown hlink hnamed hmethM hstM hkP hkPi hy (a := b) (cell := cellB) hcell
    (fun z h => by rw [h] at hobj; cases hobj) hselP hmethM habM hkP hkPi (g := g) hg (argsL := argsL) (rest := rest) (hlen _ hsigM) hstack hdg
  rcases hK m meth c ⟨T.setVm vm₁, locs, cells, slots⟩ { g with stack := rest } (.invokevirtual index) mk (Value.ref b :: argsL).toArray X₁ hg hsize hdg hW (X₁.named hnamed) (hpre vm₁ X₁.warmed) with ⟨v, B, X', hpost, hsteps⟩ | ⟨q, B, X', hpost, hsteps⟩
  · exact Or.inl ⟨v, vm₁, B, X₁.warmed, X', hpost, fun target h => hstep₁ _ fun acts => by rw [doInvoke_state]; exact hsteps.trans h⟩
  · exact Or.inr ⟨q, vm₁, B, X₁.warmed, X', hpost, hstep₁ _ fun acts => by rw [doInvoke_state]; exact hsteps⟩
theorem vx_callS (X : Stand p l e R s m args below meth c T locs cells slots) (hexec : p.tables.exec = Jvm.exec) {own : String} {index : Nat} {y : MethodName} {bytes : ByteArray} {maxL : Nat} {ret : Option FieldType}
    (hown : s.vm.findClass own = some m.cls) (hlink : (Cond.methodLink own index y).before args s = true) (hstat : (Cond.static y).before args s = true) (hinit : (Cond.initialized y.cls).before args s = true)
    (hcode : (Cond.code y bytes maxL ret).before args s = true) (hy : y.cls ≠ "java/lang/invoke/MethodHandle" ∧ y.cls ≠ "java/lang/invoke/VarHandle")
    {W9 : Nat} {Pre : Pt → Array Value → Prop} {Post : Pt → Array Value → Option Value → Pt → Prop} {PostX : Pt → Array Value → Addr → Pt → Prop} (hK : vx_Back l R p e below s args y 3 W9 Pre Post PostX)
    {g : JFrame} (hg : g.method = m) (hsize : g.locals.size = c.maxLocals) {argsL rest : List Value} (hlen : ∀ sig, parseMethodDescriptor y.desc = some sig → argsL.length = sig.parameters.length)
    (hstack : g.stack = argsL.reverse ++ rest) (hW : 2 * g.monitorRoom + (rest.map fun v => v.category).sum ≤ W9) (hdg : decode c.code g.pc = .ok (.invokestatic index, 3))
    (hpre : ∀ vm₁, s.WarmedH vm₁ → Pre ⟨T.setVm vm₁, locs, cells, slots⟩ argsL.toArray) :
    (∃ (v : Option Value) (vm₁ : Vm) (B : Pt), s.WarmedH vm₁ ∧ Stand p l e R s m args below meth c B.U B.locs B.cells B.slots ∧ Post ⟨T.setVm vm₁, locs, cells, slots⟩ argsL.toArray v B ∧
      ∀ target, Steps p.tables e below (B.U.setTop { g with pc := g.pc + 3, stack := v.toList ++ rest }) target → Steps p.tables e below (T.setTop g) target) ∨
    (∃ (q : Addr) (vm₁ : Vm) (B : Pt), s.WarmedH vm₁ ∧ Stand p l e R s m args below meth c B.U B.locs B.cells B.slots ∧ PostX ⟨T.setVm vm₁, locs, cells, slots⟩ argsL.toArray q B ∧
      Steps p.tables e below (T.setTop g) ((B.U.setTop { g with stack := rest }).pushFrame (.throwing q))) := by
  obtain ⟨mk, hnamed⟩ := Cond.code_named hcode
  obtain ⟨methM, cM, hmethM, -, -, -, -, -, -, hsigM⟩ := Cond.code_spec hnamed hcode
  have hstatic : methM.isStatic = true := Cond.static_spec hnamed hmethM hstat
  obtain ⟨kP, hkP, -⟩ := className_of_methodNamed hnamed
  have hinitP : kP.init = .initialized := Cond.initialized_spec (findClass_of_methodNamed hnamed) hkP hinit
  obtain ⟨vm₁, X₁, hstep₁⟩ := X.invokestatic hexec hown hlink hnamed hmethM hstatic hkP hinitP hy (g := g) hg (argsL := argsL) (rest := rest) (hlen _ hsigM) hstack hdg
  rcases hK m meth c ⟨T.setVm vm₁, locs, cells, slots⟩ { g with stack := rest } (.invokestatic index) mk argsL.toArray X₁ hg hsize hdg hW (X₁.named hnamed) (hpre vm₁ X₁.warmed) with ⟨v, B, X', hpost, hsteps⟩ | ⟨q, B, X', hpost, hsteps⟩
  · exact Or.inl ⟨v, vm₁, B, X₁.warmed, X', hpost, fun target h => hstep₁ _ fun acts => by rw [doInvoke_state]; exact hsteps.trans h⟩
  · exact Or.inr ⟨q, vm₁, B, X₁.warmed, X', hpost, hstep₁ _ fun acts => by rw [doInvoke_state]; exact hsteps⟩
end Calls
theorem vx_cls {s : State} {T : State} {vm₁ : Vm} {E : String} {k : ClassId} (hW : s.WarmedH vm₁) (h : (T.setVm vm₁).vm.findClass E = some k) : s.vm.findClass E = some k := by
  have h1 : vm₁.findClass E = some k := h
  rw [hW.alike.findClass] at h1
  exact h1
/-- the method's frame g, with q thrown over it -/
def vx_W (p : Program) (l : Launch) (e : Env) (R : Room) (s : State) (m : MethodId) (args : Array Value) (below : List Frame) (meth : Method) (c : Code) (H : Heap) (locs : List Loc) (cells slots : Nat) (Q : State → Prop) (g : JFrame) (q : Addr) : Prop :=
  ∀ T : State, T.heap = H → Stand p l e R s m args below meth c T locs cells slots → ∃ t, Steps p.tables e below ((T.setTop g).pushFrame (.throwing q)) t ∧ Q t
def vx_Run (p : Program) (l : Launch) (e : Env) (R : Room) (s : State) (m : MethodId) (args : Array Value) (below : List Frame) (meth : Method) (c : Code) (H : Heap) (locs : List Loc) (cells slots mc ms : Nat) (g : JFrame) (rest : List Value) (Qa : State → Outcome → State → Prop) (XC : String → State → State → Prop) (free : Addr → Prop) : Prop :=
  ∀ T : State, T.heap = H → Stand p l e R s m args below meth c T locs cells slots →
    (∃ (v : Option Value) (st₀ t T' : State) (L : List Loc), st₀.heap = H ∧ Stand p l e R s m args below meth c T' (locs ++ L) (cells + mc) (slots + ms) ∧ (∀ q ∈ L, free q.base) ∧ T'.heap = t.heap ∧ T'.vm = t.vm ∧ Qa st₀ (.returned v) t ∧
      Goes p e below T g T' { g with pc := g.pc + 3, stack := v.toList ++ rest }) ∨
    (∃ (q : Addr) (st₀ t T' : State) (L : List Loc) (E : String) (ce : Cell), st₀.heap = H ∧ Stand p l e R s m args below meth c T' (locs ++ L) (cells + mc) (slots + ms) ∧ (∀ z ∈ L, free z.base) ∧ T'.heap = t.heap ∧ T'.vm = t.vm ∧ XC E st₀ t ∧ t.heap[q]? = some ce ∧ ce.vm = .none ∧ s.vm.findClass E = some ce.cls ∧
      Steps p.tables e below (T.setTop g) ((T'.setTop { g with stack := rest }).pushFrame (.throwing q)))
def vx_X {S : Type} (px : S → Prop) (B : String → S → State → Prop) (A : Nat → Prop) : String → State → State → Prop := fun E st t => ∃ u : S, px u ∧ B E u t ∧ va_F A st t
section Runs
variable {p : Program} {l : Launch} {e : Env} {R : Room} {s : State} {m : MethodId} {args : Array Value} {below : List Frame} {meth : Method} {c : Code} {H : Heap} {locs : List Loc} {cells slots : Nat}
variable {y : MethodName} {bytes cc : ByteArray} {maxL nL mc ms n index : Nat} {ret : Option FieldType} {ws : List Cond} {rm : Room} {Pc : Array Value → State → Prop} {Qc : Array Value → State → Outcome → State → Prop} {XC : String → State → State → Prop} {free : Addr → Prop} {Ts : List Cond} {own C : String} {b : Addr} {As rest : List Value} {g : JFrame}
theorem vx_callBack (cb : CallB R s args own index y bytes maxL ret ws rm mc ms n) (hM : vx_Met l y ws rm Pc Qc XC mc ms free) (hbl : FrameBlind Pc) : vx_Back l R p e below s args y 3 8 (PreOf R mc ms Pc) (PostOf Qc mc ms free) (vx_Post XC mc ms free) := by
  obtain ⟨hrc, hrs, hfr, hlo, hws, hcw, -, hini, -⟩ := cb
  exact vx_back (bytes := bytes) (maxL := maxL) (ret := ret) hM hbl hrc hrs hfr hlo hws hcw (fun a' U hW => word_at hW (Or.inl (by first | rfl | simp [Cond.onTables, Cond.keeps, Cond.steady])) hini)
theorem vx_runV (S : CallFix p m c cc nL s args Ts own) (hM : vx_Met l y ws rm Pc Qc XC mc ms free) (cw : CallW R s args own C index y bytes maxL ret ws rm mc ms n) (hp : PreV s H C b Pc As)
    (hg : g.method = m) (hn : As.length = n) (hsize : g.locals.size = nL) (hstack : g.stack = As.reverse ++ .ref b :: rest) (hW : 2 * g.monitorRoom + (rest.map fun v => v.category).sum ≤ 8) (hdg : decode cc g.pc = .ok (.invokevirtual index, 3)) (hf : cells + mc ≤ R.cells ∧ slots + ms ≤ R.slots) :
    vx_Run p l e R s m args below meth c H locs cells slots mc ms g rest (Qc (Value.ref b :: As).toArray) XC free := by
  have hK : vx_Back l R p e below s args y 3 8 (PreOf R mc ms Pc) (PostOf Qc mc ms free) (vx_Post XC mc ms free) := vx_callBack cw.1 hM hp.1
  obtain ⟨⟨-, -, -, -, -, -, hcode, -, hy, hlen, hl⟩, hin, hse⟩ := cw
  obtain ⟨hx, hb, hml, ho, -⟩ := S
  obtain ⟨-, ⟨cellB, hcB, hoB, hclB⟩, hPc⟩ := hp
  intro T hT X
  rcases vx_callV X hx (C := C) (bytes := bytes) (maxL := maxL) (ret := ret) ho hl hin hse hcode hy hK (by rw [hT]; exact hcB) hoB hclB hg (hsize.trans hml.symm) (argsL := As) (rest := rest) (fun sig h => hn.trans (hlen sig h)) hstack hW (by rw [hb]; exact hdg)
    (fun vm₁ hW₁ => ⟨hf.1, hf.2, hPc (T.setVm vm₁) hT hW₁⟩) with ⟨v, vm₁, ⟨U', l2, c2, s2⟩, hW₁, X', ⟨g', mk, t, L, e1, e2, hq, h1, hL, h2, h3⟩, st⟩ | ⟨q, vm₁, ⟨U', l2, c2, s2⟩, hW₁, X', ⟨g', mk, t, L, E, ce, e1, e2, hq, hce, hcv, hcl, h1, hL, h2, h3⟩, st⟩
  · dsimp only [Pt.U, Pt.locs, Pt.cells, Pt.slots] at X' e1 e2 h1 h2 h3 st
    subst h1; subst h2; subst h3
    exact Or.inl ⟨v, (T.setVm vm₁).calling g' mk (Value.ref b :: As).toArray, t, U', L, hT, X', hL, e1, e2, hq, st⟩
  · dsimp only [Pt.U, Pt.locs, Pt.cells, Pt.slots] at X' e1 e2 h1 h2 h3 st hcl
    subst h1; subst h2; subst h3
    exact Or.inr ⟨q, (T.setVm vm₁).calling g' mk (Value.ref b :: As).toArray, t, U', L, E, ce, hT, X', hL, e1, e2, hq, hce, hcv, vx_cls hW₁ hcl, st⟩
theorem vx_runS (S : CallFix p m c cc nL s args Ts own) (hM : vx_Met l y ws rm Pc Qc XC mc ms free) (cw : CallB R s args own index y bytes maxL ret ws rm mc ms n ∧ (Cond.static y).before args s = true) (hp : PreS s H Pc As)
    (hg : g.method = m) (hn : As.length = n) (hsize : g.locals.size = nL) (hstack : g.stack = As.reverse ++ rest) (hW : 2 * g.monitorRoom + (rest.map fun v => v.category).sum ≤ 8) (hdg : decode cc g.pc = .ok (.invokestatic index, 3)) (hf : cells + mc ≤ R.cells ∧ slots + ms ≤ R.slots) :
    vx_Run p l e R s m args below meth c H locs cells slots mc ms g rest (Qc As.toArray) XC free := by
  have hK : vx_Back l R p e below s args y 3 8 (PreOf R mc ms Pc) (PostOf Qc mc ms free) (vx_Post XC mc ms free) := vx_callBack cw.1 hM hp.1
  obtain ⟨⟨-, -, -, -, -, -, hcode, hini, hy, hlen, hl⟩, hstt⟩ := cw
  obtain ⟨hx, hb, hml, ho, -⟩ := S
  intro T hT X
  rcases vx_callS X hx (bytes := bytes) (maxL := maxL) (ret := ret) ho hl hstt hini hcode hy hK hg (hsize.trans hml.symm) (argsL := As) (rest := rest) (fun sig h => hn.trans (hlen sig h)) hstack hW (by rw [hb]; exact hdg)
    (fun vm₁ hW₁ => ⟨hf.1, hf.2, hp.2 (T.setVm vm₁) hT hW₁⟩) with ⟨v, vm₁, ⟨U', l2, c2, s2⟩, hW₁, X', ⟨g', mk, t, L, e1, e2, hq, h1, hL, h2, h3⟩, st⟩ | ⟨q, vm₁, ⟨U', l2, c2, s2⟩, hW₁, X', ⟨g', mk, t, L, E, ce, e1, e2, hq, hce, hcv, hcl, h1, hL, h2, h3⟩, st⟩
  · dsimp only [Pt.U, Pt.locs, Pt.cells, Pt.slots] at X' e1 e2 h1 h2 h3 st
    subst h1; subst h2; subst h3
    exact Or.inl ⟨v, (T.setVm vm₁).calling g' mk As.toArray, t, U', L, hT, X', hL, e1, e2, hq, st⟩
  · dsimp only [Pt.U, Pt.locs, Pt.cells, Pt.slots] at X' e1 e2 h1 h2 h3 st hcl
    subst h1; subst h2; subst h3
    exact Or.inr ⟨q, (T.setVm vm₁).calling g' mk As.toArray, t, U', L, E, ce, hT, X', hL, e1, e2, hq, hce, hcv, vx_cls hW₁ hcl, st⟩
end Runs
section Rows
variable {p : Program} {l : Launch} {e : Env} {R : Room} {s : State} {m : MethodId} {args : Array Value} {below : List Frame} {meth : Method} {c : Code} {H : Heap} {locs : List Loc} {cells slots : Nat} {Q : State → Prop}
variable {mc ms : Nat} {free : Addr → Prop} {A0 A1 : Nat → Prop} {H0 : Heap} {a : Array Value} {pc : Nat} {ls : Array Slot} {st0 rest : List Value}
theorem vx_keep {st₀ t T' : State} {L : List Loc} (h0 : st₀.heap = H) (e1 : T'.heap = t.heap) (hS : va_S A0 H0 H locs) (hA : ∀ q, q < H.size → A1 q → A0 q) (hf : ∀ q, free q → A0 q) (hL : ∀ q ∈ L, free q.base) (hF : va_F A1 st₀ t) :
    H.size ≤ T'.heap.size ∧ (∀ q : Nat, q < H.size → ¬ A1 q → T'.heap[q]? = H[q]?) ∧ va_S A0 H0 T'.heap (locs ++ L) := by
  obtain ⟨hz, hk⟩ := hF
  rw [h0] at hz hk
  exact ⟨by rw [e1]; exact hz, fun q h1 h2 => by rw [e1]; exact hk q h1 h2,
    ⟨Nat.le_trans hS.1 (by rw [e1]; exact hz), fun q h1 h2 => by rw [e1, hk q (Nat.lt_of_lt_of_le h1 hS.1) (fun z => h2 (hA q (Nat.lt_of_lt_of_le h1 hS.1) z))]; exact hS.2.1 q h1 h2, fun q hq => by
      rcases List.mem_append.mp hq with h | h
      · exact hS.2.2 q h
      · exact hf _ (hL q h)⟩⟩
theorem vx_calli {S SX : Type} {post : Int32 → S → Prop} {px : SX → Prop} {B : S → State → Prop} {BX : String → SX → State → Prop} {AX : Nat → Prop} (hr : vx_Run p l e R s m args below meth c H locs cells slots mc ms (F0 m pc ls st0) rest (va_Qi post B A1 a) (vx_X px BX AX) free) (hS : va_S A0 H0 H locs) (hA : ∀ q, q < H.size → A1 q → A0 q) (hf : ∀ q, free q → A0 q) (hAX : ∀ q, q < H.size → AX q → A0 q)
    (kx : ∀ (E : String) (ce : Cell) (q9 : Addr) (u : SX) (t : State) (H1 : Heap) (locs1 : List Loc), t.heap = H1 → s.vm.Alike t.vm → px u → BX E u t → H.size ≤ H1.size → (∀ q : Nat, q < H.size → ¬ AX q → H1[q]? = H[q]?) → va_S A0 H0 H1 locs1 → H1[q9]? = some ce → ce.vm = .none → s.vm.findClass E = some ce.cls → vx_W p l e R s m args below meth c H1 locs1 (cells + mc) (slots + ms) Q (F0 m pc ls rest) q9)
    (kk : ∀ (r : Int32) (u : S) (t : State) (H1 : Heap) (locs1 : List Loc), t.heap = H1 → s.vm.Alike t.vm → post r u → B u t → H.size ≤ H1.size → (∀ q : Nat, q < H.size → ¬ A1 q → H1[q]? = H[q]?) → va_S A0 H0 H1 locs1 → W p l e R s m args below meth c H1 locs1 (cells + mc) (slots + ms) Q (F0 m (pc + 3) ls (.int r :: rest))) : W p l e R s m args below meth c H locs cells slots Q (F0 m pc ls st0) := by
  intro T hT X
  rcases hr T hT X with ⟨v, st₀, t, T', L, h0, X', hL, e1, e2, ⟨⟨r, u, hv, hp, hb⟩, hF⟩, st⟩ | ⟨q, st₀, t, T', L, E, ce, h0, X', hL, e1, e2, ⟨u, hp, hb, hF⟩, hce, hcv, hcl, st⟩
  · cases hv
    obtain ⟨k1, k2, k3⟩ := vx_keep h0 e1 hS hA hf hL hF
    obtain ⟨t2, a1, b1⟩ := kk r u t T'.heap (locs ++ L) e1.symm (by rw [← e2]; exact X'.warmed.alike) hp hb k1 k2 k3 T' rfl X'
    exact ⟨t2, st t2 a1, b1⟩
  · obtain ⟨k1, k2, k3⟩ := vx_keep h0 e1 hS hAX hf hL hF
    obtain ⟨t2, a1, b1⟩ := kx E ce q u t T'.heap (locs ++ L) e1.symm (by rw [← e2]; exact X'.warmed.alike) hp hb k1 k2 k3 (by rw [e1]; exact hce) hcv hcl T' rfl X'
    exact ⟨t2, st.trans a1, b1⟩
theorem vx_calll {S SX : Type} {post : Int64 → S → Prop} {px : SX → Prop} {B : S → State → Prop} {BX : String → SX → State → Prop} {AX : Nat → Prop} (hr : vx_Run p l e R s m args below meth c H locs cells slots mc ms (F0 m pc ls st0) rest (va_Ql post B A1 a) (vx_X px BX AX) free) (hS : va_S A0 H0 H locs) (hA : ∀ q, q < H.size → A1 q → A0 q) (hf : ∀ q, free q → A0 q) (hAX : ∀ q, q < H.size → AX q → A0 q)
    (kx : ∀ (E : String) (ce : Cell) (q9 : Addr) (u : SX) (t : State) (H1 : Heap) (locs1 : List Loc), t.heap = H1 → s.vm.Alike t.vm → px u → BX E u t → H.size ≤ H1.size → (∀ q : Nat, q < H.size → ¬ AX q → H1[q]? = H[q]?) → va_S A0 H0 H1 locs1 → H1[q9]? = some ce → ce.vm = .none → s.vm.findClass E = some ce.cls → vx_W p l e R s m args below meth c H1 locs1 (cells + mc) (slots + ms) Q (F0 m pc ls rest) q9)
    (kk : ∀ (r : Int64) (u : S) (t : State) (H1 : Heap) (locs1 : List Loc), t.heap = H1 → s.vm.Alike t.vm → post r u → B u t → H.size ≤ H1.size → (∀ q : Nat, q < H.size → ¬ A1 q → H1[q]? = H[q]?) → va_S A0 H0 H1 locs1 → W p l e R s m args below meth c H1 locs1 (cells + mc) (slots + ms) Q (F0 m (pc + 3) ls (.long r :: rest))) : W p l e R s m args below meth c H locs cells slots Q (F0 m pc ls st0) := by
  intro T hT X
  rcases hr T hT X with ⟨v, st₀, t, T', L, h0, X', hL, e1, e2, ⟨⟨r, u, hv, hp, hb⟩, hF⟩, st⟩ | ⟨q, st₀, t, T', L, E, ce, h0, X', hL, e1, e2, ⟨u, hp, hb, hF⟩, hce, hcv, hcl, st⟩
  · cases hv
    obtain ⟨k1, k2, k3⟩ := vx_keep h0 e1 hS hA hf hL hF
    obtain ⟨t2, a1, b1⟩ := kk r u t T'.heap (locs ++ L) e1.symm (by rw [← e2]; exact X'.warmed.alike) hp hb k1 k2 k3 T' rfl X'
    exact ⟨t2, st t2 a1, b1⟩
  · obtain ⟨k1, k2, k3⟩ := vx_keep h0 e1 hS hAX hf hL hF
    obtain ⟨t2, a1, b1⟩ := kx E ce q u t T'.heap (locs ++ L) e1.symm (by rw [← e2]; exact X'.warmed.alike) hp hb k1 k2 k3 (by rw [e1]; exact hce) hcv hcl T' rfl X'
    exact ⟨t2, st.trans a1, b1⟩
theorem vx_callf {S SX : Type} {post : UInt32 → S → Prop} {px : SX → Prop} {B : S → State → Prop} {BX : String → SX → State → Prop} {AX : Nat → Prop} (hr : vx_Run p l e R s m args below meth c H locs cells slots mc ms (F0 m pc ls st0) rest (va_Qf post B A1 a) (vx_X px BX AX) free) (hS : va_S A0 H0 H locs) (hA : ∀ q, q < H.size → A1 q → A0 q) (hf : ∀ q, free q → A0 q) (hAX : ∀ q, q < H.size → AX q → A0 q)
    (kx : ∀ (E : String) (ce : Cell) (q9 : Addr) (u : SX) (t : State) (H1 : Heap) (locs1 : List Loc), t.heap = H1 → s.vm.Alike t.vm → px u → BX E u t → H.size ≤ H1.size → (∀ q : Nat, q < H.size → ¬ AX q → H1[q]? = H[q]?) → va_S A0 H0 H1 locs1 → H1[q9]? = some ce → ce.vm = .none → s.vm.findClass E = some ce.cls → vx_W p l e R s m args below meth c H1 locs1 (cells + mc) (slots + ms) Q (F0 m pc ls rest) q9)
    (kk : ∀ (r : UInt32) (u : S) (t : State) (H1 : Heap) (locs1 : List Loc), t.heap = H1 → s.vm.Alike t.vm → post r u → B u t → H.size ≤ H1.size → (∀ q : Nat, q < H.size → ¬ A1 q → H1[q]? = H[q]?) → va_S A0 H0 H1 locs1 → W p l e R s m args below meth c H1 locs1 (cells + mc) (slots + ms) Q (F0 m (pc + 3) ls (.float r :: rest))) : W p l e R s m args below meth c H locs cells slots Q (F0 m pc ls st0) := by
  intro T hT X
  rcases hr T hT X with ⟨v, st₀, t, T', L, h0, X', hL, e1, e2, ⟨⟨r, u, hv, hp, hb⟩, hF⟩, st⟩ | ⟨q, st₀, t, T', L, E, ce, h0, X', hL, e1, e2, ⟨u, hp, hb, hF⟩, hce, hcv, hcl, st⟩
  · cases hv
    obtain ⟨k1, k2, k3⟩ := vx_keep h0 e1 hS hA hf hL hF
    obtain ⟨t2, a1, b1⟩ := kk r u t T'.heap (locs ++ L) e1.symm (by rw [← e2]; exact X'.warmed.alike) hp hb k1 k2 k3 T' rfl X'
    exact ⟨t2, st t2 a1, b1⟩
  · obtain ⟨k1, k2, k3⟩ := vx_keep h0 e1 hS hAX hf hL hF
    obtain ⟨t2, a1, b1⟩ := kx E ce q u t T'.heap (locs ++ L) e1.symm (by rw [← e2]; exact X'.warmed.alike) hp hb k1 k2 k3 (by rw [e1]; exact hce) hcv hcl T' rfl X'
    exact ⟨t2, st.trans a1, b1⟩
theorem vx_calld {S SX : Type} {post : UInt64 → S → Prop} {px : SX → Prop} {B : S → State → Prop} {BX : String → SX → State → Prop} {AX : Nat → Prop} (hr : vx_Run p l e R s m args below meth c H locs cells slots mc ms (F0 m pc ls st0) rest (va_Qd post B A1 a) (vx_X px BX AX) free) (hS : va_S A0 H0 H locs) (hA : ∀ q, q < H.size → A1 q → A0 q) (hf : ∀ q, free q → A0 q) (hAX : ∀ q, q < H.size → AX q → A0 q)
    (kx : ∀ (E : String) (ce : Cell) (q9 : Addr) (u : SX) (t : State) (H1 : Heap) (locs1 : List Loc), t.heap = H1 → s.vm.Alike t.vm → px u → BX E u t → H.size ≤ H1.size → (∀ q : Nat, q < H.size → ¬ AX q → H1[q]? = H[q]?) → va_S A0 H0 H1 locs1 → H1[q9]? = some ce → ce.vm = .none → s.vm.findClass E = some ce.cls → vx_W p l e R s m args below meth c H1 locs1 (cells + mc) (slots + ms) Q (F0 m pc ls rest) q9)
    (kk : ∀ (r : UInt64) (u : S) (t : State) (H1 : Heap) (locs1 : List Loc), t.heap = H1 → s.vm.Alike t.vm → post r u → B u t → H.size ≤ H1.size → (∀ q : Nat, q < H.size → ¬ A1 q → H1[q]? = H[q]?) → va_S A0 H0 H1 locs1 → W p l e R s m args below meth c H1 locs1 (cells + mc) (slots + ms) Q (F0 m (pc + 3) ls (.double r :: rest))) : W p l e R s m args below meth c H locs cells slots Q (F0 m pc ls st0) := by
  intro T hT X
  rcases hr T hT X with ⟨v, st₀, t, T', L, h0, X', hL, e1, e2, ⟨⟨r, u, hv, hp, hb⟩, hF⟩, st⟩ | ⟨q, st₀, t, T', L, E, ce, h0, X', hL, e1, e2, ⟨u, hp, hb, hF⟩, hce, hcv, hcl, st⟩
  · cases hv
    obtain ⟨k1, k2, k3⟩ := vx_keep h0 e1 hS hA hf hL hF
    obtain ⟨t2, a1, b1⟩ := kk r u t T'.heap (locs ++ L) e1.symm (by rw [← e2]; exact X'.warmed.alike) hp hb k1 k2 k3 T' rfl X'
    exact ⟨t2, st t2 a1, b1⟩
  · obtain ⟨k1, k2, k3⟩ := vx_keep h0 e1 hS hAX hf hL hF
    obtain ⟨t2, a1, b1⟩ := kx E ce q u t T'.heap (locs ++ L) e1.symm (by rw [← e2]; exact X'.warmed.alike) hp hb k1 k2 k3 (by rw [e1]; exact hce) hcv hcl T' rfl X'
    exact ⟨t2, st.trans a1, b1⟩
theorem vx_callv {S SX : Type} {post : S → Prop} {px : SX → Prop} {B : S → State → Prop} {BX : String → SX → State → Prop} {AX : Nat → Prop} (hr : vx_Run p l e R s m args below meth c H locs cells slots mc ms (F0 m pc ls st0) rest (va_Qv post B A1 a) (vx_X px BX AX) free) (hS : va_S A0 H0 H locs) (hA : ∀ q, q < H.size → A1 q → A0 q) (hf : ∀ q, free q → A0 q) (hAX : ∀ q, q < H.size → AX q → A0 q)
    (kx : ∀ (E : String) (ce : Cell) (q9 : Addr) (u : SX) (t : State) (H1 : Heap) (locs1 : List Loc), t.heap = H1 → s.vm.Alike t.vm → px u → BX E u t → H.size ≤ H1.size → (∀ q : Nat, q < H.size → ¬ AX q → H1[q]? = H[q]?) → va_S A0 H0 H1 locs1 → H1[q9]? = some ce → ce.vm = .none → s.vm.findClass E = some ce.cls → vx_W p l e R s m args below meth c H1 locs1 (cells + mc) (slots + ms) Q (F0 m pc ls rest) q9)
    (kk : ∀ (u : S) (t : State) (H1 : Heap) (locs1 : List Loc), t.heap = H1 → s.vm.Alike t.vm → post u → B u t → H.size ≤ H1.size → (∀ q : Nat, q < H.size → ¬ A1 q → H1[q]? = H[q]?) → va_S A0 H0 H1 locs1 → W p l e R s m args below meth c H1 locs1 (cells + mc) (slots + ms) Q (F0 m (pc + 3) ls (rest))) : W p l e R s m args below meth c H locs cells slots Q (F0 m pc ls st0) := by
  intro T hT X
  rcases hr T hT X with ⟨v, st₀, t, T', L, h0, X', hL, e1, e2, ⟨⟨u, hv, hp, hb⟩, hF⟩, st⟩ | ⟨q, st₀, t, T', L, E, ce, h0, X', hL, e1, e2, ⟨u, hp, hb, hF⟩, hce, hcv, hcl, st⟩
  · cases hv
    obtain ⟨k1, k2, k3⟩ := vx_keep h0 e1 hS hA hf hL hF
    obtain ⟨t2, a1, b1⟩ := kk u t T'.heap (locs ++ L) e1.symm (by rw [← e2]; exact X'.warmed.alike) hp hb k1 k2 k3 T' rfl X'
    exact ⟨t2, st t2 a1, b1⟩
  · obtain ⟨k1, k2, k3⟩ := vx_keep h0 e1 hS hAX hf hL hF
    obtain ⟨t2, a1, b1⟩ := kx E ce q u t T'.heap (locs ++ L) e1.symm (by rw [← e2]; exact X'.warmed.alike) hp hb k1 k2 k3 (by rw [e1]; exact hce) hcv hcl T' rfl X'
    exact ⟨t2, st.trans a1, b1⟩
/-- caught by the row x of this method's table; the rows ahead don't take it -/
theorem vx_catch {own name : String} {E : String} {ce : Cell} {q : Addr} (hown : s.vm.findClass own = some m.cls) (pre : List ExceptionTableEntry) (x : ExceptionTableEntry) (suf : List ExceptionTableEntry) (hsplit : c.exceptionTable.toList = pre ++ x :: suf)
    (hpass : ∀ z ∈ pre, covers z pc = false ∨ (z.catchType ≠ 0 ∧ ∃ nm : String, (Cond.classLink own z.catchType nm).before args s = true ∧ va_Nc E nm s)) (hx : covers x pc = true) (h0 : x.catchType ≠ 0)
    (hlink : (Cond.classLink own x.catchType name).before args s = true) (hcast : (Cond.castable E name).before args s = true) (hcell : H[q]? = some ce) (hv : ce.vm = .none) (hcl : s.vm.findClass E = some ce.cls)
    (kk : W p l e R s m args below meth c H locs cells slots Q (F0 m x.handlerPc ls [.ref q])) : vx_W p l e R s m args below meth c H locs cells slots Q (F0 m pc ls rest) q := by
  intro T hT X
  have hpl : e.platform.magicAccessors = ({} : Platform).magicAccessors := by rw [X.admits.platform]
  obtain ⟨c3, c4, hc3, hc4, hasg⟩ := Cond.castable_spec hcast
  cases Option.some.inj (hc3.symm.trans hcl)
  obtain ⟨c5, hc5, hcl5⟩ := Cond.classLink_spec hown hlink e.platform hpl
  cases Option.some.inj (hc4.symm.trans hc5)
  obtain ⟨vm', X', st⟩ := X.thenCaughtThrough q (g := F0 m pc ls rest) rfl (Steps.refl _) (by rw [hT]; exact hcell) (by rw [hv]; rfl) (by obtain ⟨k9, h9, -⟩ := Vm.findClass_spec hcl; exact ⟨k9, h9⟩) pre x suf hsplit
    (fun z hz => by
      rcases hpass z hz with h | ⟨hz0, nm, hl1, hn1⟩
      · exact Or.inl h
      · obtain ⟨c6, hc6, hcl6⟩ := Cond.classLink_spec hown hl1 e.platform hpl
        obtain ⟨a8, b8, h1, h2, h3⟩ := hn1
        cases Option.some.inj (h1.symm.trans hcl)
        cases Option.some.inj (h2.symm.trans hc6)
        exact Or.inr ⟨hz0, _, hcl6, h3⟩) hx (Or.inr ⟨h0, c4, hcl5, hasg⟩)
  obtain ⟨t, a1, b1⟩ := kk (T.setVm vm') hT X'
  exact ⟨t, st.trans a1, b1⟩
end Rows
section Ends
variable {p : Program} {l : Launch} {e : Env} {R : Room} {s : State} {m : MethodId} {args : Array Value} {below : List Frame} {meth : Method} {c : Code} {H : Heap} {locs : List Loc} {cells slots : Nat} {Q : State → Prop}
variable {mc ms : Nat} {free : Addr → Prop} {A0 A1 : Nat → Prop} {H0 : Heap} {a : Array Value} {ls : Array Slot} {st0 rest : List Value}
variable {Qc : Array Value → State → Outcome → State → Prop} {XC : String → State → State → Prop}
/-- what a body that may throw owes at its end -/
def vx_MQ (below : List Frame) (Qc : Array Value → State → Outcome → State → Prop) (XC : String → State → State → Prop) (a : Array Value) (s : State) (mc ms : Nat) (free : Addr → Prop) : State → Prop := fun t =>
  ∃ o, t.status = .running ∧ Ended t below o ∧ vx_Q Qc XC mc ms free a s o t
theorem vx_ret {g : JFrame} {mc ms : Nat} (k : W p l e R s m args below meth c H locs cells slots (MQ below Qc args s mc ms free) g) : W p l e R s m args below meth c H locs cells slots (vx_MQ below Qc XC args s mc ms free) g := by
  intro T hT X
  obtain ⟨t, a1, o, b1, b2, b3, b4⟩ := k T hT X
  exact ⟨t, a1, o, b1, b2, Or.inl ⟨b3, b4⟩⟩
/-- not caught here: it goes on to the caller -/
theorem vx_widen {g : JFrame} {q : Addr} {k n : Nat} (h1 : cells ≤ k) (h2 : slots ≤ n) (kk : vx_W p l e R s m args below meth c H locs k n Q g q) : vx_W p l e R s m args below meth c H locs cells slots Q g q := fun T hT X => kk T hT (stand_widen X h1 h2)
theorem vx_out {pc : Nat} {E : String} {ce : Cell} {q : Addr} {mc ms : Nat} (hout : ∀ x ∈ c.exceptionTable.toList, covers x pc = false) (hlocks : meth.locks = false) (hcell : H[q]? = some ce) (hv : ce.vm = .none) (hcl : s.vm.findClass E = some ce.cls)
    (hx : ∀ t : State, t.heap = H → s.vm.Alike t.vm → XC E s t) (hf : ∀ z ∈ locs, free z.base) (hc : cells ≤ mc) (hs : slots ≤ ms) :
    vx_W p l e R s m args below meth c H locs cells slots (vx_MQ below Qc XC args s mc ms free) (F0 m pc ls rest) q := by
  intro T hT X
  obtain ⟨st1, hrun, hend, hW, hsm⟩ := X.leaveThrown q (g := F0 m pc ls rest) rfl rfl rfl hout hlocks
  have hcell9 : (T.setFrames (.throwing q :: below)).heap[q]? = some ce := by
    show T.heap[q]? = some ce
    rw [hT]; exact hcell
  exact ⟨_, st1, .threw q, hrun, hend, Or.inr ⟨q, rfl, E, ce, locs, hx _ hT hW.alike, hcell9, hv, hcl, hW, hsm.mono hc hs, hf⟩⟩
theorem vx_frame {U : State} {k n : Nat} (h : s.sameButNew ({ U with vm := s.vm } : State) locs k n) : s.heap.size ≤ U.heap.size ∧ ∀ q : Nat, q < s.heap.size → (∀ z ∈ locs, z.base ≠ q) → U.heap[q]? = s.heap[q]? := by
  obtain ⟨-, h2, -, -, -, h6⟩ := h
  refine ⟨h2, fun q hq hz => ?_⟩
  obtain ⟨c9, e1, e2, e3, e4⟩ := h6 q _ (Array.getElem?_eq_getElem hq)
  have hs : c9.slots = (s.heap[q]).slots := Array.ext_getElem? fun i => e4 i fun hm => hz _ hm rfl
  have h9 : c9 = s.heap[q] := by
    rw [hs] at e2
    exact e2
  have e5 : U.heap[q]? = some c9 := e1
  rw [e5, h9, Array.getElem?_eq_getElem hq]
/-- the words of a throw but the four that speak of the heap -/
def vx_no (w : Cond) : Bool := decide (w ≠ .isRef (.static Bundle.tN "UNASSIGNED_STACK" Bundle.steD)) && decide (w ≠ .isRef (.static Bundle.tN "SUPPRESSED_SENTINEL" Bundle.listD)) && decide (w ≠ .laysStatic Bundle.tN "UNASSIGNED_STACK" Bundle.steD) && decide (w ≠ .laysStatic Bundle.tN "SUPPRESSED_SENTINEL" Bundle.listD)
def vx_at0 (own : String) (ic : Nat) (X : String) (names : List String) : List Cond := (Bundle.ownAtoms0 own ic X names).filter vx_no
def vx_atS (own : String) (ic : Nat) (X : String) (names : List String) : List Cond := (Bundle.ownAtoms own ic X names).filter vx_no
/-- a word that the tables alone decide, or a good one -/
def vx_ot (w : Cond) : Bool := w.onTables || goodWord w
theorem vx_ot_at {args a' : Array Value} {s U : State} {w : Cond} (hW : s.WarmedH U.vm) (hvm : s.vm = U.vm) (hg : vx_ot w = true) (h : w.before args s = true) : w.before a' U = true := by
  simp only [vx_ot, Bool.or_eq_true] at hg
  rcases hg with hg | hg
  · exact va_tabs hg hvm h
  · exact word_at hW (good_of_word hg) h
/-- a list's words: the good ones out of the method's own list, the others by premises of their own -/
theorem vx_hat {args : Array Value} {s : State} {L B : List Cond} (h1 : ∀ w ∈ L.filter goodWord, w.before args s = true) (h2 : ∀ w ∈ L.filter (fun w => !goodWord w), w ∈ B) (h3 : ∀ w ∈ B, w.before args s = true) : ∀ w ∈ L, w.before args s = true := by
  intro w hw
  by_cases g : goodWord w = true
  · exact h1 w (List.mem_filter.mpr ⟨hw, g⟩)
  · refine h3 w (h2 w (List.mem_filter.mpr ⟨hw, ?_⟩))
    show (!goodWord w) = true
    cases hgw : goodWord w
    · rfl
    · exact absurd hgw g
theorem vx_c {args : Array Value} {s : State} {w : Cond} {B : List Cond} (h : w.before args s = true) (t : ∀ w ∈ B, w.before args s = true) : ∀ w' ∈ w :: B, w'.before args s = true := fun w' h' => (List.mem_cons.mp h').elim (fun e => by rw [e]; exact h) (t w')
theorem vx_n {args : Array Value} {s : State} : ∀ w ∈ ([] : List Cond), w.before args s = true := fun _ h => nomatch h
theorem vx_own {args : Array Value} {s : State} {L : List Cond} (h1 : ∀ w ∈ L.filter vx_no, w.before args s = true)
    (hU : (Cond.isRef (.static Bundle.tN "UNASSIGNED_STACK" Bundle.steD)).before args s = true) (hN : (Cond.isRef (.static Bundle.tN "SUPPRESSED_SENTINEL" Bundle.listD)).before args s = true)
    (lU : (Cond.laysStatic Bundle.tN "UNASSIGNED_STACK" Bundle.steD).before args s = true) (lN : (Cond.laysStatic Bundle.tN "SUPPRESSED_SENTINEL" Bundle.listD).before args s = true) : ∀ w ∈ L, w.before args s = true := by
  intro w hw
  by_cases e1 : w = .isRef (.static Bundle.tN "UNASSIGNED_STACK" Bundle.steD)
  · rw [e1]; exact hU
  · by_cases e2 : w = .isRef (.static Bundle.tN "SUPPRESSED_SENTINEL" Bundle.listD)
    · rw [e2]; exact hN
    · by_cases e3 : w = .laysStatic Bundle.tN "UNASSIGNED_STACK" Bundle.steD
      · rw [e3]; exact lU
      · by_cases e4 : w = .laysStatic Bundle.tN "SUPPRESSED_SENTINEL" Bundle.listD
        · rw [e4]; exact lN
        · exact h1 w (List.mem_filter.mpr ⟨hw, by unfold vx_no; rw [decide_eq_true e1, decide_eq_true e2, decide_eq_true e3, decide_eq_true e4]; rfl⟩)
/-- where a static field lies, its class's statics cell in H -/
def vx_L (C n d : String) (A : Nat → Prop) (U : State) (H : Heap) : Prop := ∃ (c : ClassId) (k : Class) (i : Nat) (f : Field) (a : Nat) (cell : Cell), U.vm.findClass C = some c ∧ U.fieldFound? C n d = some (c, k, i, f) ∧ f.isStatic = true ∧ k.statics = some a ∧ H[a]? = some cell ∧ cell.vm.isStatics = true ∧ cell.cls = c ∧ f.slot < cell.slots.size ∧ k.staticTypes[f.slot]? = some f.type ∧ ¬ A a
theorem vx_L.moved {C n d : String} {A : Nat → Prop} {u U : State} {H : Heap} (hvm : u.vm.Alike U.vm) (h : vx_L C n d A u H) : vx_L C n d A U H := by
  obtain ⟨c, k, i, f, a, cell, h1, h2, h3, h4, h5, h6, h7, h8, h9, h10⟩ := h
  obtain ⟨k', hi', he⟩ := State.fieldFound?_setVm hvm h2
  exact ⟨c, k', i, f, a, cell, by rw [hvm.findClass]; exact h1, hi', h3, by rw [he]; exact h4, h5, h6, h7, h8, by rw [he]; exact h9, h10⟩
theorem vx_L.kept {C n d : String} {A : Nat → Prop} {U : State} {H H1 : Heap} (h : vx_L C n d A U H) (hq : ∀ a : Nat, a < H.size → ¬ A a → H1[a]? = H[a]?) : vx_L C n d A U H1 := by
  obtain ⟨c, k, i, f, a, cell, h1, h2, h3, h4, h5, h6, h7, h8, h9, h10⟩ := h
  exact ⟨c, k, i, f, a, cell, h1, h2, h3, h4, by rw [hq a (Array.getElem?_eq_some_iff.mp h5).1 h10]; exact h5, h6, h7, h8, h9, h10⟩
theorem vx_L.narrow {C n d : String} {A B : Nat → Prop} {U : State} {H : Heap} (h : vx_L C n d A U H) (hAB : ∀ q, B q → A q) : vx_L C n d B U H := by
  obtain ⟨c, k, i, f, a, cell, h1, h2, h3, h4, h5, h6, h7, h8, h9, h10⟩ := h
  exact ⟨c, k, i, f, a, cell, h1, h2, h3, h4, h5, h6, h7, h8, h9, fun z => h10 (hAB _ z)⟩
theorem vx_L.word {C n d : String} {A : Nat → Prop} {s : State} {args : Array Value} (h : vx_L C n d A s s.heap) : (Cond.laysStatic C n d).before args s = true := by
  obtain ⟨c, k, i, f, a, cell, h1, h2, h3, h4, h5, h6, h7, h8, h9, -⟩ := h
  show (Cond.laysStatic C n d).holds args s none s [] = true
  exact Cond.laysStatic_of h1 h2 h3 h4 h5 h6 h7 h8 h9
/-- .. and what it holds: null or some reference -/
def vx_Zq (C n d : String) (A : Nat → Prop) (U : State) (H : Heap) : Prop := va_Zq C n d A U H ∧ vx_L C n d A U H
theorem vx_Zq.moved {C n d : String} {A : Nat → Prop} {u U : State} {H : Heap} (hvm : u.vm.Alike U.vm) (h : vx_Zq C n d A u H) : vx_Zq C n d A U H := ⟨va_Zq.moved hvm h.1, vx_L.moved hvm h.2⟩
theorem vx_Zq.kept {C n d : String} {A : Nat → Prop} {U : State} {H H1 : Heap} (h : vx_Zq C n d A U H) (hq : ∀ a : Nat, a < H.size → ¬ A a → H1[a]? = H[a]?) : vx_Zq C n d A U H1 := ⟨va_Zq.kept h.1 hq, vx_L.kept h.2 hq⟩
theorem vx_Zq.narrow {C n d : String} {A B : Nat → Prop} {U : State} {H : Heap} (h : vx_Zq C n d A U H) (hAB : ∀ q, B q → A q) : vx_Zq C n d B U H := ⟨va_Zq.narrow h.1 hAB, vx_L.narrow h.2 hAB⟩
theorem vx_Zqof {args : Array Value} {s : State} {C n d : String} {A : Nat → Prop} (hl : (Cond.laysStatic C n d).before args s = true) (hini : (Cond.initialized C).before args s = true) (h : (Cond.isRef (.static C n d)).before args s = true) (hA : ∀ a : Nat, a < s.heap.size → ¬ A a) : vx_Zq C n d A s s.heap := by
  refine ⟨va_Zqof hl hini h hA, ?_⟩
  obtain ⟨c, k, i, f, a, cell, h1, h2, h3, h4, h5, h6, h7, h8, h9⟩ := Cond.laysStatic_spec hl
  exact ⟨c, k, i, f, a, cell, h1, h2, h3, h4, h5, h6, h7, h8, h9, hA a (Array.getElem?_eq_some_iff.mp h5).1⟩
theorem vx_isRef {C n d : String} {v : Value} {A : Nat → Prop} {s : State} {args : Array Value} (h : va_Z C n d v A s s.heap) (hv : v.isRef = true) : (Cond.isRef (.static C n d)).before args s = true := by
  obtain ⟨cf, kf, fi, f, a, cell, h1, h2, h3, h4, h5, h6, h7, -⟩ := h
  have he : (Term.static C n d).eval args s none [] s = some v := by
    simp [Term.eval, State.fieldNamed?, h1, h2, h4, h5, h6, h7]
  simp only [Cond.before, Cond.holds, Cond.value, he]
  cases v <;> simp_all [Value.isRef]
theorem vx_isRefq {C n d : String} {A : Nat → Prop} {s : State} {args : Array Value} (h : va_Zq C n d A s s.heap) : (Cond.isRef (.static C n d)).before args s = true := by
  rcases h with h | ⟨t, h⟩
  · exact vx_isRef h rfl
  · exact vx_isRef h rfl
/-- the same frame, seen from here: as if the method were called anew in this heap -/
theorem vx_rebase {T : State} (X : Stand p l e R s m args below meth c T locs cells slots) {R' : Room} (hf : R'.frames ≤ R.frames) (hl : R'.locals ≤ R.locals) (hc : cells + R'.cells ≤ R.cells) (hs : slots + R'.slots ≤ R.slots) :
    Stand p l e R' ((T.setVm s.vm).setFrames (.invoking m args :: below)) m args below meth c T [] 0 0 := by
  have htop : (T.setVm s.vm).topJava?.isSome := X.here.top
  have hF : ((T.setVm s.vm).setFrames (.invoking m args :: below)).frames = .invoking m args :: below := State.frames_setFrames _ (State.cur_lt_of_top htop)
  obtain ⟨g₀, hg0⟩ := Option.isSome_iff_exists.mp htop
  obtain ⟨r, hr⟩ := State.topJava?_eq_some.mp hg0
  have hl9 : e.platform.stackLimits (T.setVm s.vm).me = e.platform.stackLimits s.me := X.limits
  have hb9 : (T.setVm s.vm).me.stackBytes = s.me.stackBytes := X.bytes
  refine ⟨X.admits, X.cas, X.clock, hF, ?_, X.hears, X.method, X.code, X.here, X.tail, X.warmed, ?_, ?_, ?_⟩
  · have h := X.room
    have hU : ((T.setVm s.vm).setFrames (.invoking m args :: below)).localsInUse = s.localsInUse := by
      rw [State.localsInUse_invoking hF (meth := meth) (c := c) X.method X.code, State.localsInUse_invoking X.frames X.method X.code]
    simp only [State.hasRoom, Bool.and_eq_true, decide_eq_true_eq] at h ⊢
    obtain ⟨⟨⟨⟨h1, h2, h3, h4, h5, h6⟩, h7⟩, h8⟩, h9⟩ := h
    rw [X.frames, List.length_cons] at h2 h3
    have q1 := X.heapSize
    have q2 := X.used
    simp only [hF, hU, List.length_cons, State.stackLimits_setFrames, State.stackBytes_setFrames, hl9, hb9]
    refine ⟨⟨⟨⟨by omega, by omega, by omega, by omega, by omega, h6⟩, ?_⟩, ?_⟩, X.book⟩
    · show T.heap.size + R'.cells ≤ e.platform.maxCells
      omega
    · show T.slotsUsed + R'.slots ≤ e.platform.maxSlots
      omega
  · rw [State.stackLimits_setFrames]; rfl
  · rw [State.stackBytes_setFrames]; rfl
  · refine ⟨?_, Nat.le_refl _, Nat.le_refl _, ?_, ?_, fun a c9 h9 => ⟨c9, h9, rfl, rfl, fun _ _ => rfl⟩⟩
    · obtain ⟨t, ht, -⟩ := State.frames_cons hr
      show T.setVm s.vm = { ((T.setVm s.vm).setFrames (.invoking m args :: below)).setFrames (T.setVm s.vm).frames with heap := T.heap, slotsUsed := T.slotsUsed }
      rw [State.setFrames_setFrames, State.setFrames_self ht]
      rfl
    · show T.slotsUsed = T.slotsUsed + ((T.heap.toList.drop T.heap.size).map (·.slots.size)).sum
      rw [List.drop_eq_nil_of_le (Nat.le_of_eq Array.length_toList)]
      rfl
    · show ((T.heap.toList.drop T.heap.size).map (·.slots.size)).sum ≤ 0
      rw [List.drop_eq_nil_of_le (Nat.le_of_eq Array.length_toList)]
      exact Nat.le_refl _
/-- 'throw new E()': new; dup; invokespecial; athrow -/
theorem vx_throw0 {cc : ByteArray} {pc : Nat} (hexec : p.tables.exec = Jvm.exec) (hb : c.code = cc) (hl : l.stackTraces = false) {own cls : String} {names : List String} {ik ic mc ms : Nat} {A : Nat → Prop}
    (hown : s.vm.findClass own = some m.cls) (hcls : Bundle.fit cls = true) (hnames : ∀ n ∈ names, Bundle.fit n = true)
    (hk : (Cond.classLink own ik cls).before args s = true) (hini : (Cond.initialized cls).before args s = true) (hat : ∀ w ∈ vx_at0 own ic cls names, w.before args s = true)
    (hgood : ∀ w ∈ Cond.classLink own ik cls :: Cond.initialized cls :: vx_at0 own ic cls names, vx_ot w = true)
    (hU : vx_Zq Bundle.tN "UNASSIGNED_STACK" Bundle.steD A s s.heap) (hN : vx_Zq Bundle.tN "SUPPRESSED_SENTINEL" Bundle.listD A s s.heap) (hS : va_S A s.heap H locs) (hsize : ls.size = c.maxLocals)
    (d0 : decode cc pc = .ok (.new ik, 3)) (d3 : decode cc (pc + 3) = .ok (.dup, 1)) (d4 : decode cc (pc + 4) = .ok (.invokespecial ic, 3)) (d7 : decode cc (pc + 7) = .ok (.athrow, 1))
    (hout : ∀ x ∈ c.exceptionTable.toList, covers x (pc + 7) = false)
    (hRframes : names.length + 3 < R.frames) (hRlocals : (rest.map fun v => v.category).sum + (13 * (names.length + 1) + 42) ≤ R.locals) (hRcells : cells + 1 ≤ R.cells) (hRslots : slots + 6 ≤ R.slots) (hlocks : meth.locks = false)
    (hx : ∀ t : State, s.vm.Alike t.vm → H.size ≤ t.heap.size → (∀ q : Nat, q < H.size → t.heap[q]? = H[q]?) → XC cls s t)
    (hf : ∀ z ∈ locs, free z.base) (hc : cells + 1 ≤ mc) (hs : slots + 6 ≤ ms) :
    W p l e R s m args below meth c H locs cells slots (vx_MQ below Qc XC args s mc ms free) (F0 m pc ls rest) := by
  intro T hT X
  have htr : e.platform.stackTraces = false := (show e.platform.stackTraces = l.stackTraces by rw [X.admits.platform]).trans hl
  have Y := vx_rebase X (R' := { frames := R.frames, locals := R.locals, cells := 1, slots := 6 }) (Nat.le_refl _) (Nat.le_refl _) hRcells hRslots
  obtain ⟨s', hA⟩ : ∃ z, z = (T.setVm s.vm).setFrames (.invoking m args :: below) := ⟨_, rfl⟩
  rw [← hA] at Y
  have hvm : s'.vm = s.vm := by rw [hA]; rfl
  have hhp : s'.heap = H := by rw [hA]; exact hT
  have hW0 : s.WarmedH s'.vm := by rw [hvm]; exact State.WarmedH.refl s
  have hat' : ∀ w ∈ vx_at0 own ic cls names, w.before args s' = true := fun w hw => vx_ot_at hW0 hvm.symm (hgood w (List.mem_cons_of_mem _ (List.mem_cons_of_mem _ hw))) (hat w hw)
  have hk' : (Cond.classLink own ik cls).before args s' = true := vx_ot_at hW0 hvm.symm (hgood _ List.mem_cons_self) hk
  have hini' : (Cond.initialized cls).before args s' = true := vx_ot_at hW0 hvm.symm (hgood _ (List.mem_cons_of_mem _ List.mem_cons_self)) hini
  have hU' : vx_Zq Bundle.tN "UNASSIGNED_STACK" Bundle.steD A s' s'.heap := by rw [hhp]; exact vx_Zq.moved hW0.alike (hU.kept hS.2.1)
  have hN' : vx_Zq Bundle.tN "SUPPRESSED_SENTINEL" Bundle.listD A s' s'.heap := by rw [hhp]; exact vx_Zq.moved hW0.alike (hN.kept hS.2.1)
  have h : ∀ w ∈ Bundle.ownAtoms0 own ic cls names, w.before args s' = true := vx_own hat' (vx_isRefq hU'.1) (vx_isRefq hN'.1) hU'.2.word hN'.2.word
  have hown' : s'.vm.findClass own = some m.cls := by rw [hvm]; exact hown
  have hins : (Cond.instantiable cls 6).before args s' = true := h _ (by simp [Bundle.ownAtoms0])
  obtain ⟨vm₁, cX, kX, hfX, hkX, -, -, X₁, st1⟩ := Y.newCold hexec (own := own) (C := cls) (index := ik) (n := 6) hown' hk' hins hini'
    (g := F0 m pc ls rest) rfl (by rw [hb]; exact d0) (Nat.le_refl _) (Nat.le_refl _)
  generalize hT1 : (T.setVm vm₁).pushCell { cls := cX, slots := kX.instanceTypes.map defaultValue, vm := .none } = T1 at X₁ st1
  have hcat : (Value.ref T.heap.size).category = 1 := rfl
  have hcellA : T1.heap[T.heap.size]? = some (freshCell cX kX) := by rw [← hT1]; exact State.heap_pushCell_size _ _
  have d3' : decode c.code (pc + 3) = .ok (.dup, 1) := by rw [hb]; exact d3
  obtain ⟨U, hsteps, hrun, hend, hW, hsame, ce, hce, hO⟩ := X₁.ctorThrow0 hexec htr (own := own) (cls := cls) (names := names) (ic := ic) hown' hcls hnames h (fun x hx => nomatch hx) hfX hkX hcellA (by rw [hhp, hT]; exact Nat.le_refl _)
    (g := { method := m, pc := pc + 4, locals := ls, stack := .ref T.heap.size :: .ref T.heap.size :: rest, locked := none }) rfl hsize rfl rfl (rest := rest) rfl
    (by rw [hb]; exact d4) (by rw [hb]; exact d7) hout hRframes (by simp only [List.map_cons, List.sum_cons, hcat]; omega) hlocks
  obtain ⟨f1, f2⟩ := vx_frame hsame
  rw [hhp] at f1 f2
  have hWs : s.WarmedH U.vm := State.WarmedH.trans hW0 hW
  have hcl : s.vm.findClass cls = some ce.cls := by
    have h9 := hO.cls
    rw [hvm] at h9
    exact h9
  have hall : s.sameButNew ({ U with vm := s.vm } : State) locs mc ms := by
    subst hA
    obtain ⟨e1, e2⟩ := hsame
    rw [State.setFrames_setFrames] at e1
    have h2 : (T.setVm s.vm).sameButNew ({ U with vm := s.vm } : State) [] (0 + 1) (0 + 6) := ⟨e1, e2⟩
    have h3 := X.same.trans h2
    rw [List.append_nil] at h3
    exact h3.mono hc hs
  refine ⟨U, ?_, .threw T.heap.size, hrun, hend, Or.inr ⟨T.heap.size, rfl, cls, ce, locs, hx U hWs.alike f1 (fun q hq => f2 q hq (fun z hz => nomatch hz)), hce, hO.vm, hcl, hWs, hall, hf⟩⟩
  refine st1 _ ?_
  show Steps p.tables e below (T1.setTop { method := m, pc := pc + 3, locals := ls, stack := .ref T.heap.size :: rest, locked := none }) _
  jvm_step X₁.here [X₁.here.top, hexec, d3', Value.category]
  exact hsteps
/-- 'throw new E("text")': new; dup; ldc; invokespecial; athrow -/
theorem vx_throwS {cc : ByteArray} {pc : Nat} (hexec : p.tables.exec = Jvm.exec) (hb : c.code = cc) (hl : l.stackTraces = false) {own cls text : String} {names : List String} {ik is ic mc ms sa : Nat} {A : Nat → Prop}
    (hown : s.vm.findClass own = some m.cls) (hcls : Bundle.fit cls = true) (hnames : ∀ n ∈ names, Bundle.fit n = true)
    (hk : (Cond.classLink own ik cls).before args s = true) (hini : (Cond.initialized cls).before args s = true) (hstr : vk_R own is text sa s) (hat : ∀ w ∈ vx_atS own ic cls names, w.before args s = true)
    (hgood : ∀ w ∈ Cond.classLink own ik cls :: Cond.initialized cls :: vx_atS own ic cls names, vx_ot w = true)
    (hU : vx_Zq Bundle.tN "UNASSIGNED_STACK" Bundle.steD A s s.heap) (hN : vx_Zq Bundle.tN "SUPPRESSED_SENTINEL" Bundle.listD A s s.heap) (hS : va_S A s.heap H locs) (hsize : ls.size = c.maxLocals)
    (d0 : decode cc pc = .ok (.new ik, 3)) (d3 : decode cc (pc + 3) = .ok (.dup, 1)) (d4 : decode cc (pc + 4) = .ok (.ldc is, 2)) (d6 : decode cc (pc + 6) = .ok (.invokespecial ic, 3)) (d9 : decode cc (pc + 9) = .ok (.athrow, 1))
    (hout : ∀ x ∈ c.exceptionTable.toList, covers x (pc + 9) = false)
    (hRframes : names.length + 3 < R.frames) (hRlocals : (rest.map fun v => v.category).sum + (13 * (names.length + 1) + 43) ≤ R.locals) (hRcells : cells + 1 ≤ R.cells) (hRslots : slots + 6 ≤ R.slots) (hlocks : meth.locks = false)
    (hx : ∀ t : State, s.vm.Alike t.vm → H.size ≤ t.heap.size → (∀ q : Nat, q < H.size → t.heap[q]? = H[q]?) → XC cls s t)
    (hf : ∀ z ∈ locs, free z.base) (hc : cells + 1 ≤ mc) (hs : slots + 6 ≤ ms) :
    W p l e R s m args below meth c H locs cells slots (vx_MQ below Qc XC args s mc ms free) (F0 m pc ls rest) := by
  intro T hT X
  have htr : e.platform.stackTraces = false := (show e.platform.stackTraces = l.stackTraces by rw [X.admits.platform]).trans hl
  have Y := vx_rebase X (R' := { frames := R.frames, locals := R.locals, cells := 1, slots := 6 }) (Nat.le_refl _) (Nat.le_refl _) hRcells hRslots
  obtain ⟨s', hA⟩ : ∃ z, z = (T.setVm s.vm).setFrames (.invoking m args :: below) := ⟨_, rfl⟩
  rw [← hA] at Y
  have hvm : s'.vm = s.vm := by rw [hA]; rfl
  have hhp : s'.heap = H := by rw [hA]; exact hT
  have hW0 : s.WarmedH s'.vm := by rw [hvm]; exact State.WarmedH.refl s
  have hat' : ∀ w ∈ vx_atS own ic cls names, w.before args s' = true := fun w hw => vx_ot_at hW0 hvm.symm (hgood w (List.mem_cons_of_mem _ (List.mem_cons_of_mem _ hw))) (hat w hw)
  have hk' : (Cond.classLink own ik cls).before args s' = true := vx_ot_at hW0 hvm.symm (hgood _ List.mem_cons_self) hk
  have hini' : (Cond.initialized cls).before args s' = true := vx_ot_at hW0 hvm.symm (hgood _ (List.mem_cons_of_mem _ List.mem_cons_self)) hini
  have hU' : vx_Zq Bundle.tN "UNASSIGNED_STACK" Bundle.steD A s' s'.heap := by rw [hhp]; exact vx_Zq.moved hW0.alike (hU.kept hS.2.1)
  have hN' : vx_Zq Bundle.tN "SUPPRESSED_SENTINEL" Bundle.listD A s' s'.heap := by rw [hhp]; exact vx_Zq.moved hW0.alike (hN.kept hS.2.1)
  have h : ∀ w ∈ Bundle.ownAtoms own ic cls names, w.before args s' = true := vx_own hat' (vx_isRefq hU'.1) (vx_isRefq hN'.1) hU'.2.word hN'.2.word
  have hown' : s'.vm.findClass own = some m.cls := by rw [hvm]; exact hown
  have hins : (Cond.instantiable cls 6).before args s' = true := h _ (by simp [Bundle.ownAtoms])
  obtain ⟨vm₁, cX, kX, hfX, hkX, -, -, X₁, st1⟩ := Y.newCold hexec (own := own) (C := cls) (index := ik) (n := 6) hown' hk' hins hini'
    (g := F0 m pc ls rest) rfl (by rw [hb]; exact d0) (Nat.le_refl _) (Nat.le_refl _)
  generalize hT1 : (T.setVm vm₁).pushCell { cls := cX, slots := kX.instanceTypes.map defaultValue, vm := .none } = T1 at X₁ st1
  have hcat : (Value.ref T.heap.size).category = 1 := rfl
  have hcellA : T1.heap[T.heap.size]? = some (freshCell cX kX) := by rw [← hT1]; exact State.heap_pushCell_size _ _
  have d3' : decode c.code (pc + 3) = .ok (.dup, 1) := by rw [hb]; exact d3
  have d4' : decode c.code (pc + 4) = .ok (.ldc is, 2) := by rw [hb]; exact d4
  have hstr' : vk_R own is text sa s' := vk_R.warm hW0 hstr
  obtain ⟨U, hsteps, hrun, hend, hW, hsame, ce, hce, hO⟩ := X₁.ctorThrowS hexec htr (own := own) (cls := cls) (names := names) (ic := ic) hown' hcls hnames h (fun x hx => nomatch hx) hfX hkX hcellA (by rw [hhp, hT]; exact Nat.le_refl _) (msg := .ref sa) rfl
    (g := { method := m, pc := pc + 6, locals := ls, stack := .ref sa :: .ref T.heap.size :: .ref T.heap.size :: rest, locked := none }) rfl hsize rfl rfl (rest := rest) rfl
    (by rw [hb]; exact d6) (by rw [hb]; exact d9) hout hRframes (by simp only [List.map_cons, List.sum_cons, hcat]; omega) hlocks
  obtain ⟨f1, f2⟩ := vx_frame hsame
  rw [hhp] at f1 f2
  have hWs : s.WarmedH U.vm := State.WarmedH.trans hW0 hW
  have hcl : s.vm.findClass cls = some ce.cls := by
    have h9 := hO.cls
    rw [hvm] at h9
    exact h9
  have hall : s.sameButNew ({ U with vm := s.vm } : State) locs mc ms := by
    subst hA
    obtain ⟨e1, e2⟩ := hsame
    rw [State.setFrames_setFrames] at e1
    have h2 : (T.setVm s.vm).sameButNew ({ U with vm := s.vm } : State) [] (0 + 1) (0 + 6) := ⟨e1, e2⟩
    have h3 := X.same.trans h2
    rw [List.append_nil] at h3
    exact h3.mono hc hs
  refine ⟨U, ?_, .threw T.heap.size, hrun, hend, Or.inr ⟨T.heap.size, rfl, cls, ce, locs, hx U hWs.alike f1 (fun q hq => f2 q hq (fun z hz => nomatch hz)), hce, hO.vm, hcl, hWs, hall, hf⟩⟩
  refine st1 _ ?_
  show Steps p.tables e below (T1.setTop { method := m, pc := pc + 3, locals := ls, stack := .ref T.heap.size :: rest, locked := none }) _
  jvm_step X₁.here [X₁.here.top, hexec, d3', Value.category]
  exact X₁.ldcString hexec (own := own) (text := text) (index := is) (a := sa) hown' hstr'.1 hstr'.2
    (g := { method := m, pc := pc + 4, locals := ls, stack := .ref T.heap.size :: .ref T.heap.size :: rest, locked := none }) rfl d4' _ hsteps
/-- 'throw new E("text")', the text by a wide index -/
theorem vx_throwSW {cc : ByteArray} {pc : Nat} (hexec : p.tables.exec = Jvm.exec) (hb : c.code = cc) (hl : l.stackTraces = false) {own cls text : String} {names : List String} {ik is ic mc ms sa : Nat} {A : Nat → Prop}
    (hown : s.vm.findClass own = some m.cls) (hcls : Bundle.fit cls = true) (hnames : ∀ n ∈ names, Bundle.fit n = true)
    (hk : (Cond.classLink own ik cls).before args s = true) (hini : (Cond.initialized cls).before args s = true) (hstr : vk_R own is text sa s) (hat : ∀ w ∈ vx_atS own ic cls names, w.before args s = true)
    (hgood : ∀ w ∈ Cond.classLink own ik cls :: Cond.initialized cls :: vx_atS own ic cls names, vx_ot w = true)
    (hU : vx_Zq Bundle.tN "UNASSIGNED_STACK" Bundle.steD A s s.heap) (hN : vx_Zq Bundle.tN "SUPPRESSED_SENTINEL" Bundle.listD A s s.heap) (hS : va_S A s.heap H locs) (hsize : ls.size = c.maxLocals)
    (d0 : decode cc pc = .ok (.new ik, 3)) (d3 : decode cc (pc + 3) = .ok (.dup, 1)) (d4 : decode cc (pc + 4) = .ok (.ldc_w is, 3)) (d7 : decode cc (pc + 7) = .ok (.invokespecial ic, 3)) (d10 : decode cc (pc + 10) = .ok (.athrow, 1))
    (hout : ∀ x ∈ c.exceptionTable.toList, covers x (pc + 10) = false)
    (hRframes : names.length + 3 < R.frames) (hRlocals : (rest.map fun v => v.category).sum + (13 * (names.length + 1) + 43) ≤ R.locals) (hRcells : cells + 1 ≤ R.cells) (hRslots : slots + 6 ≤ R.slots) (hlocks : meth.locks = false)
    (hx : ∀ t : State, s.vm.Alike t.vm → H.size ≤ t.heap.size → (∀ q : Nat, q < H.size → t.heap[q]? = H[q]?) → XC cls s t)
    (hf : ∀ z ∈ locs, free z.base) (hc : cells + 1 ≤ mc) (hs : slots + 6 ≤ ms) :
    W p l e R s m args below meth c H locs cells slots (vx_MQ below Qc XC args s mc ms free) (F0 m pc ls rest) := by
  intro T hT X
  have htr : e.platform.stackTraces = false := (show e.platform.stackTraces = l.stackTraces by rw [X.admits.platform]).trans hl
  have Y := vx_rebase X (R' := { frames := R.frames, locals := R.locals, cells := 1, slots := 6 }) (Nat.le_refl _) (Nat.le_refl _) hRcells hRslots
  obtain ⟨s', hA⟩ : ∃ z, z = (T.setVm s.vm).setFrames (.invoking m args :: below) := ⟨_, rfl⟩
  rw [← hA] at Y
  have hvm : s'.vm = s.vm := by rw [hA]; rfl
  have hhp : s'.heap = H := by rw [hA]; exact hT
  have hW0 : s.WarmedH s'.vm := by rw [hvm]; exact State.WarmedH.refl s
  have hat' : ∀ w ∈ vx_atS own ic cls names, w.before args s' = true := fun w hw => vx_ot_at hW0 hvm.symm (hgood w (List.mem_cons_of_mem _ (List.mem_cons_of_mem _ hw))) (hat w hw)
  have hk' : (Cond.classLink own ik cls).before args s' = true := vx_ot_at hW0 hvm.symm (hgood _ List.mem_cons_self) hk
  have hini' : (Cond.initialized cls).before args s' = true := vx_ot_at hW0 hvm.symm (hgood _ (List.mem_cons_of_mem _ List.mem_cons_self)) hini
  have hU' : vx_Zq Bundle.tN "UNASSIGNED_STACK" Bundle.steD A s' s'.heap := by rw [hhp]; exact vx_Zq.moved hW0.alike (hU.kept hS.2.1)
  have hN' : vx_Zq Bundle.tN "SUPPRESSED_SENTINEL" Bundle.listD A s' s'.heap := by rw [hhp]; exact vx_Zq.moved hW0.alike (hN.kept hS.2.1)
  have h : ∀ w ∈ Bundle.ownAtoms own ic cls names, w.before args s' = true := vx_own hat' (vx_isRefq hU'.1) (vx_isRefq hN'.1) hU'.2.word hN'.2.word
  have hown' : s'.vm.findClass own = some m.cls := by rw [hvm]; exact hown
  have hins : (Cond.instantiable cls 6).before args s' = true := h _ (by simp [Bundle.ownAtoms])
  obtain ⟨vm₁, cX, kX, hfX, hkX, -, -, X₁, st1⟩ := Y.newCold hexec (own := own) (C := cls) (index := ik) (n := 6) hown' hk' hins hini'
    (g := F0 m pc ls rest) rfl (by rw [hb]; exact d0) (Nat.le_refl _) (Nat.le_refl _)
  generalize hT1 : (T.setVm vm₁).pushCell { cls := cX, slots := kX.instanceTypes.map defaultValue, vm := .none } = T1 at X₁ st1
  have hcat : (Value.ref T.heap.size).category = 1 := rfl
  have hcellA : T1.heap[T.heap.size]? = some (freshCell cX kX) := by rw [← hT1]; exact State.heap_pushCell_size _ _
  have d3' : decode c.code (pc + 3) = .ok (.dup, 1) := by rw [hb]; exact d3
  have d4' : decode c.code (pc + 4) = .ok (.ldc_w is, 3) := by rw [hb]; exact d4
  have hstr' : vk_R own is text sa s' := vk_R.warm hW0 hstr
  obtain ⟨U, hsteps, hrun, hend, hW, hsame, ce, hce, hO⟩ := X₁.ctorThrowS hexec htr (own := own) (cls := cls) (names := names) (ic := ic) hown' hcls hnames h (fun x hx => nomatch hx) hfX hkX hcellA (by rw [hhp, hT]; exact Nat.le_refl _) (msg := .ref sa) rfl
    (g := { method := m, pc := pc + 7, locals := ls, stack := .ref sa :: .ref T.heap.size :: .ref T.heap.size :: rest, locked := none }) rfl hsize rfl rfl (rest := rest) rfl
    (by rw [hb]; exact d7) (by rw [hb]; exact d10) hout hRframes (by simp only [List.map_cons, List.sum_cons, hcat]; omega) hlocks
  obtain ⟨f1, f2⟩ := vx_frame hsame
  rw [hhp] at f1 f2
  have hWs : s.WarmedH U.vm := State.WarmedH.trans hW0 hW
  have hcl : s.vm.findClass cls = some ce.cls := by
    have h9 := hO.cls
    rw [hvm] at h9
    exact h9
  have hall : s.sameButNew ({ U with vm := s.vm } : State) locs mc ms := by
    subst hA
    obtain ⟨e1, e2⟩ := hsame
    rw [State.setFrames_setFrames] at e1
    have h2 : (T.setVm s.vm).sameButNew ({ U with vm := s.vm } : State) [] (0 + 1) (0 + 6) := ⟨e1, e2⟩
    have h3 := X.same.trans h2
    rw [List.append_nil] at h3
    exact h3.mono hc hs
  refine ⟨U, ?_, .threw T.heap.size, hrun, hend, Or.inr ⟨T.heap.size, rfl, cls, ce, locs, hx U hWs.alike f1 (fun q hq => f2 q hq (fun z hz => nomatch hz)), hce, hO.vm, hcl, hWs, hall, hf⟩⟩
  refine st1 _ ?_
  show Steps p.tables e below (T1.setTop { method := m, pc := pc + 3, locals := ls, stack := .ref T.heap.size :: rest, locked := none }) _
  jvm_step X₁.here [X₁.here.top, hexec, d3', Value.category]
  exact X₁.ldcStringW hexec (own := own) (text := text) (index := is) (a := sa) hown' hstr'.1 hstr'.2
    (g := { method := m, pc := pc + 4, locals := ls, stack := .ref T.heap.size :: .ref T.heap.size :: rest, locked := none }) rfl d4' _ hsteps
end Ends
section Bodies
variable {l : Launch}
theorem vx_ofW {y : MethodName} {ws ws' : List Cond} {rm : Room} {Pc : Array Value → State → Prop} {Qc : Array Value → State → Outcome → State → Prop} {XC : String → State → State → Prop} {mc ms : Nat} {free : Addr → Prop} {cc : ByteArray} {maxL : Nat} {ret : Option FieldType}
    (hy : plainName y.cls = true) (hw : ws = Cond.code y cc maxL ret :: ws')
    (body : ∀ p e s m args below meth c s₁, BodyLoose p l y (headSpec ws rm) cc maxL ret e s m args below meth c s₁ → c.maxLocals = maxL → (∀ x ∈ c.exceptionTable.toList, False) → Pc args s →
      W p l e (headSpec ws rm).room s m args below meth c s.heap [] 0 0 (vx_MQ below Qc XC args s mc ms free) (entryFrame m args maxL)) : vx_Met l y ws rm Pc Qc XC mc ms free := by
  refine MetFree.of_bodyS (code := cc) (maxLocals := maxL) (ret := ret) hy ?_ ?_
  · intro args s m h hn
    obtain ⟨meth, c, h1, h2, h3, h4, h5, h6, -, -⟩ := Cond.code_spec hn (atoms_spec (ws := ws) h _ (by rw [hw]; exact List.mem_cons_self))
    exact ⟨meth, c, h1, h2, h3, h4, h5, h6⟩
  · intro p e s m args below meth c s₁ B hml hP _
    have hh0 : s₁.heap = s.heap := by rw [B.state]; rfl
    have ht : ∀ x ∈ c.exceptionTable.toList, False := by
      obtain ⟨meth9, c9, h1, h2, -, -, -, -, h7, -⟩ := Cond.code_spec B.named (atoms_spec (ws := ws) B.pre _ (by rw [hw]; exact List.mem_cons_self))
      cases Option.some.inj (h1.symm.trans B.method)
      cases Option.some.inj (h2.symm.trans (Stand.of_body B).code)
      intro x hx
      rw [Array.isEmpty_iff.mp h7] at hx
      cases hx
    obtain ⟨t, a1, o, b1, b2, b3⟩ := body p e s m args below meth c s₁ B hml ht hP s₁ hh0 (Stand.of_body B)
    exact ⟨t, o, a1, b1, b2, b3⟩
/-- the table of a body with handlers -/
theorem vx_table {p : Program} {x y : MethodName} {S : Spec} {cc bytes : ByteArray} {maxL maxL' : Nat} {ret ret' : Option FieldType} {e : Env} {s s₁ : State} {m : MethodId} {args : Array Value} {below : List Frame} {meth : Method} {c : Code} {hh : List (Nat × Nat × Nat × Nat)}
    (B : BodyLoose p l y S cc maxL ret e s m args below meth c s₁) (h : (Cond.codeWith y bytes maxL' ret' hh).before args s = true) : c.exceptionTable.toList = tableOf hh := by
  obtain ⟨m9, meth9, c9, hn9, h1, h2, -, -, h6, -⟩ := Cond.codeWith_spec h
  cases Option.some.inj (hn9.symm.trans B.named)
  cases Option.some.inj (h1.symm.trans B.method)
  cases Option.some.inj (h2.symm.trans (Stand.of_body B).code)
  rw [← h6, table_eq]
end Bodies
end VXA
/-! ===== END ===== -/
/-! ===== BEGIN a static call of a method with an exception table ===== -/
section VXS
variable {p : Program} {l : Launch} {e : Env} {R : Room} {s : State} {m : MethodId} {args : Array Value} {below : List Frame} {meth : Method} {c : Code} {T : State} {H : Heap} {locs : List Loc} {cells slots : Nat}
abbrev vx_CSW (R : Room) (s : State) (args : Array Value) (own : String) (index : Nat) (y : MethodName) (bytes : ByteArray) (maxL : Nat) (ret : Option FieldType) (hh : List (Nat × Nat × Nat × Nat)) (ws : List Cond) (rm : Room) (mc ms n : Nat) : Prop :=
  (rm.cells = mc ∧ rm.slots = ms ∧ rm.frames + 1 ≤ R.frames ∧ 8 + (maxL + 11) + rm.locals ≤ R.locals ∧ (∀ w ∈ ws, ∀ (a' : Array Value) (U : State), s.WarmedH U.vm → w.before a' U = true) ∧ Cond.codeWith y bytes maxL ret hh ∈ ws) ∧
  (Cond.codeWith y bytes maxL ret hh).before args s = true ∧ (Cond.initialized y.cls).before args s = true ∧ (y.cls ≠ "java/lang/invoke/MethodHandle" ∧ y.cls ≠ "java/lang/invoke/VarHandle") ∧
  (∀ sig, parseMethodDescriptor y.desc = some sig → n = sig.parameters.length) ∧ (Cond.methodLink own index y).before args s = true ∧ (Cond.static y).before args s = true
theorem vx_cwSW {own : String} {index maxL mc ms : Nat} {y : MethodName} {bytes : ByteArray} {ret : Option FieldType} {hh : List (Nat × Nat × Nat × Nat)} {Ts ws ws' : List Cond} {rm : Room} (n : Nat) (ht : ∀ w ∈ Ts, w.before args s = true) (hT : GoodIn Ts (va_wsS own index y ws)) (hw : ws = Cond.codeWith y bytes maxL ret hh :: ws') (hrc : rm.cells = mc) (hrs : rm.slots = ms)
    (hd : y.cls ≠ "java/lang/invoke/MethodHandle" ∧ y.cls ≠ "java/lang/invoke/VarHandle" ∧ (parseMethodDescriptor y.desc).map (fun d => d.parameters.length) = some n) (hR : rm.frames + 1 ≤ R.frames ∧ 8 + (maxL + 11) + rm.locals ≤ R.locals) :
    vx_CSW R s args own index y bytes maxL ret hh ws rm mc ms n := by
  have ok : ∀ w ∈ va_wsS own index y ws, w.before args s = true := fun w h => ht w (hT w h).1
  have hG : GoodIn Ts ws := fun w h => hT w (by unfold va_wsS; exact List.mem_append_right _ h)
  have hc : Cond.codeWith y bytes maxL ret hh ∈ ws := by rw [hw]; exact List.mem_cons_self
  refine ⟨⟨hrc, hrs, hR.1, hR.2, pay_in ht hG, hc⟩, ht _ (hG _ hc).1, ok _ (by simp [va_wsS]), ⟨hd.1, hd.2.1⟩, fun sig h => ?_, ok _ (by simp [va_wsS]), ok _ (by simp [va_wsS])⟩
  have h2 := hd.2.2
  rw [h] at h2
  exact (Option.some.inj h2).symm
theorem vx_callSW (X : Stand p l e R s m args below meth c T locs cells slots) (hexec : p.tables.exec = Jvm.exec) {own : String} {index : Nat} {y : MethodName} {bytes : ByteArray} {maxL : Nat} {ret : Option FieldType} {hh : List (Nat × Nat × Nat × Nat)}
    (hown : s.vm.findClass own = some m.cls) (hlink : (Cond.methodLink own index y).before args s = true) (hstat : (Cond.static y).before args s = true) (hinit : (Cond.initialized y.cls).before args s = true)
    (hcode : (Cond.codeWith y bytes maxL ret hh).before args s = true) (hy : y.cls ≠ "java/lang/invoke/MethodHandle" ∧ y.cls ≠ "java/lang/invoke/VarHandle")
    {W9 : Nat} {Pre : Pt → Array Value → Prop} {Post : Pt → Array Value → Option Value → Pt → Prop} (hK : Back l R p e below s args y 3 W9 Pre Post)
    {g : JFrame} (hg : g.method = m) (hsize : g.locals.size = c.maxLocals) {argsL rest : List Value} (hlen : ∀ sig, parseMethodDescriptor y.desc = some sig → argsL.length = sig.parameters.length)
    (hstack : g.stack = argsL.reverse ++ rest) (hW : 2 * g.monitorRoom + (rest.map fun v => v.category).sum ≤ W9) (hdg : decode c.code g.pc = .ok (.invokestatic index, 3))
    (hpre : ∀ vm₁, s.WarmedH vm₁ → Pre ⟨T.setVm vm₁, locs, cells, slots⟩ argsL.toArray) :
    ∃ (v : Option Value) (vm₁ : Vm) (B : Pt), s.WarmedH vm₁ ∧ Stand p l e R s m args below meth c B.U B.locs B.cells B.slots ∧ Post ⟨T.setVm vm₁, locs, cells, slots⟩ argsL.toArray v B ∧
      ∀ target, Steps p.tables e below (B.U.setTop { g with pc := g.pc + 3, stack := v.toList ++ rest }) target → Steps p.tables e below (T.setTop g) target := by
  obtain ⟨mk, methM, cM, hnamed, hmethM, -, -, -, -, -, -, hsigM⟩ := Cond.codeWith_spec hcode
  have hstatic : methM.isStatic = true := Cond.static_spec hnamed hmethM hstat
  obtain ⟨kP, hkP, -⟩ := className_of_methodNamed hnamed
  have hinitP : kP.init = .initialized := Cond.initialized_spec (findClass_of_methodNamed hnamed) hkP hinit
  obtain ⟨vm₁, X₁, hstep₁⟩ := X.invokestatic hexec hown hlink hnamed hmethM hstatic hkP hinitP hy (g := g) hg (argsL := argsL) (rest := rest) (hlen _ hsigM) hstack hdg
  obtain ⟨v, B, X', hpost, hsteps⟩ := hK m meth c ⟨T.setVm vm₁, locs, cells, slots⟩ { g with stack := rest } (.invokestatic index) mk argsL.toArray X₁ hg hsize hdg hW (X₁.named hnamed) (hpre vm₁ X₁.warmed)
  exact ⟨v, vm₁, B, X₁.warmed, X', hpost, fun target h => hstep₁ _ fun acts => by rw [doInvoke_state]; exact hsteps.trans h⟩
theorem vx_runSW {y : MethodName} {bytes cc : ByteArray} {maxL nL mc ms n index : Nat} {ret : Option FieldType} {hh : List (Nat × Nat × Nat × Nat)} {ws : List Cond} {rm : Room} {Pc : Array Value → State → Prop} {Qc : Array Value → State → Outcome → State → Prop} {free : Addr → Prop} {Ts : List Cond} {own : String} {As rest : List Value} {g : JFrame}
    (S : CallFix p m c cc nL s args Ts own) (hM : Met l y ws rm Pc Qc mc ms free) (cw : vx_CSW R s args own index y bytes maxL ret hh ws rm mc ms n) (hp : PreS s H Pc As)
    (hg : g.method = m) (hn : As.length = n) (hsize : g.locals.size = nL) (hstack : g.stack = As.reverse ++ rest) (hW : 2 * g.monitorRoom + (rest.map fun v => v.category).sum ≤ 8) (hdg : decode cc g.pc = .ok (.invokestatic index, 3)) (hf : cells + mc ≤ R.cells ∧ slots + ms ≤ R.slots) :
    va_Run p l e R s m args below meth c H locs cells slots mc ms g rest (Qc As.toArray) (free) := by
  obtain ⟨⟨hrc, hrs, hfr, hlo, hws, hcw⟩, hcode, hini, hy, hlen, hl, hstt⟩ := cw
  have hK : Back l R p e below s args y 3 8 (PreOf R mc ms Pc) (PostOf Qc mc ms free) := va_backW (hh := hh) (bytes := bytes) (maxL := maxL) (ret := ret) hM hp.1 hrc hrs hfr hlo hws hcw (fun a' U hW => word_at hW (Or.inl (by first | rfl | simp [Cond.onTables, Cond.keeps, Cond.steady])) hini)
  obtain ⟨hx, hb, hml, ho, -⟩ := S
  intro T hT X
  obtain ⟨v, vm₁, ⟨U', l2, c2, s2⟩, hW₁, X', ⟨g', mk, t, L, e1, e2, hq, h1, hL, h2, h3⟩, st⟩ := vx_callSW X hx (hh := hh) (bytes := bytes) (maxL := maxL) (ret := ret) ho hl hstt hini hcode hy hK hg (hsize.trans hml.symm) (argsL := As) (rest := rest) (fun sig h => hn.trans (hlen sig h)) hstack hW (by rw [hb]; exact hdg)
    (fun vm₁ hW₁ => ⟨hf.1, hf.2, hp.2 (T.setVm vm₁) hT hW₁⟩)
  dsimp only [Pt.U, Pt.locs, Pt.cells, Pt.slots] at X' e1 e2 h1 h2 h3 st
  subst h1; subst h2; subst h3
  exact ⟨v, (T.setVm vm₁).calling g' mk As.toArray, t, U', L, hT, X', hL, e1, e2, hq, st⟩
/-- not caught here, past rows that name other classes: it goes on to the caller -/
theorem vx_outP {p : Program} {l : Launch} {e : Env} {R : Room} {s : State} {m : MethodId} {args : Array Value} {below : List Frame} {meth : Method} {c : Code} {H : Heap} {locs : List Loc} {cells slots : Nat} {free : Addr → Prop} {ls : Array Slot} {rest : List Value} {Qc : Array Value → State → Outcome → State → Prop} {XC : String → State → State → Prop}
    {pc : Nat} {own E : String} {ce : Cell} {q : Addr} {mc ms : Nat} (hown : s.vm.findClass own = some m.cls) (hlocks : meth.locks = false)
    (hpass : ∀ z ∈ c.exceptionTable.toList, covers z pc = false ∨ (z.catchType ≠ 0 ∧ ∃ nm : String, (Cond.classLink own z.catchType nm).before args s = true ∧ va_Nc E nm s)) (hcell : H[q]? = some ce) (hv : ce.vm = .none) (hcl : s.vm.findClass E = some ce.cls)
    (hx : ∀ t : State, t.heap = H → s.vm.Alike t.vm → XC E s t) (hf : ∀ z ∈ locs, free z.base) (hc : cells ≤ mc) (hs : slots ≤ ms) :
    vx_W p l e R s m args below meth c H locs cells slots (vx_MQ below Qc XC args s mc ms free) (F0 m pc ls rest) q := by
  intro T hT X
  have hpl : e.platform.magicAccessors = ({} : Platform).magicAccessors := by rw [X.admits.platform]
  obtain ⟨vm', hW', X', st⟩ := X.outThrough hlocks q (g := F0 m pc ls rest) rfl rfl rfl (cell := ce) (by rw [hT]; exact hcell) (by rw [hv]; rfl)
    (by obtain ⟨k9, h9, -⟩ := Vm.findClass_spec hcl; exact ⟨k9, h9⟩) (fun z hz => by
      rcases hpass z hz with h | ⟨hz0, nm, hl1, hn1⟩
      · exact Or.inl h
      · obtain ⟨c6, hc6, hcl6⟩ := Cond.classLink_spec hown hl1 e.platform hpl
        obtain ⟨a8, b8, h1, h2, h3⟩ := hn1
        cases Option.some.inj (h1.symm.trans hcl)
        cases Option.some.inj (h2.symm.trans hc6)
        exact Or.inr ⟨hz0, _, hcl6, h3⟩)
  obtain ⟨g₀, hfr⟩ := X'.frames_eq
  have hcell9 : ((T.setVm vm').setFrames (.throwing q :: below)).heap[q]? = some ce := by
    show T.heap[q]? = some ce
    rw [hT]; exact hcell
  have hend : Ended ((T.setVm vm').setFrames (.throwing q :: below)) below (.threw q) := State.frames_setFrames _ (State.cur_lt_of_frames hfr)
  refine ⟨(T.setVm vm').setFrames (.throwing q :: below), ?_, .threw q, X'.here.running, hend, Or.inr ⟨q, rfl, E, ce, locs, hx _ hT (X'.ends _).1.alike, hcell9, hv, hcl, (X'.ends _).1, (X'.ends _).2.mono hc hs, hf⟩⟩
  rw [X.pushThrowing_eq]
  exact st
/-- a thing of a world lies in the heap -/
theorem vx_lt {D : va_G} {cl : List vw_C} {ws : va_W} {H1 : Heap} (h : va_P D cl ws H1) {k : Nat} {q : Nat × va_E} (hk : ws[k]? = some q) : q.1 < H1.size := (h k q hk).lt
end VXS
/-! ===== END ===== -/
/-! ===== BEGIN methods with a table of their own: called by a name, returning or throwing ===== -/
section VXH
/-! vx_backW, vx_callVX, vx_callSX, vx_callVW, vx_runVW, vx_runVX, vx_runSX, vx_ofWH follow the same proofs as their sisters above (Free/Laws.lean, Shelf42/LK1.lean); vx_outP calls Shelf42/NT130.lean (outThrough). -/
section
variable {l : Launch} {R : Room} {p : Program} {e : Env} {below : List Frame} {s : State} {sargs : Array Value} {y : MethodName} {len W9 : Nat}
theorem vx_backW {ws : List Cond} {rm : Room} {Pc : Array Value → State → Prop} {Qc : Array Value → State → Outcome → State → Prop} {XC : String → State → State → Prop} {mc ms : Nat} {free : Addr → Prop} {bytes : ByteArray} {maxL : Nat} {ret : Option FieldType} {hh : List (Nat × Nat × Nat × Nat)}
    (hM : vx_Met l y ws rm Pc Qc XC mc ms free) (hblind : FrameBlind Pc) (hrc : rm.cells = mc) (hrs : rm.slots = ms)
    (hframes : rm.frames + 1 ≤ R.frames) (hlocals : W9 + (maxL + 11) + rm.locals ≤ R.locals)
    (hws : ∀ w ∈ ws, ∀ a' U, s.WarmedH U.vm → w.before a' U = true) (hcode : Cond.codeWith y bytes maxL ret hh ∈ ws) (hinit : ∀ a' U, s.WarmedH U.vm → (Cond.initialized y.cls).before a' U = true) :
    vx_Back l R p e below s sargs y len W9 (PreOf R mc ms Pc) (PostOf Qc mc ms free) (vx_Post XC mc ms free) := by
  intro m meth c A g ig mk a X hg hsize hdg hW hn hp
  have h1 : (headSpec ws rm).pre.before a A.U = true := atoms_intro fun w hw => hws w hw _ _ X.warmed
  have h2 : (Cond.codeWith y bytes maxL ret hh).before a A.U = true := hws _ hcode _ _ X.warmed
  have h3 : (Cond.initialized y.cls).before a A.U = true := hinit _ _ X.warmed
  have h4 : A.cells + (headSpec ws rm).room.cells ≤ R.cells := by rw [show (headSpec ws rm).room.cells = mc from hrc]; exact hp.1
  have h5 : A.slots + (headSpec ws rm).room.slots ≤ R.slots := by rw [show (headSpec ws rm).room.slots = ms from hrs]; exact hp.2.1
  have hPc : Pc a (A.U.calling g mk a) := hblind _ _ _ _ hp.2.2
  obtain ⟨U, Ls, c0, s0⟩ := A
  dsimp only [Pt.U, Pt.locs, Pt.cells, Pt.slots] at h1 h2 h3 h4 h5 X hn hPc ⊢
  obtain ⟨m9, methY, cY, hn9, hmY, hcY, -, hlY, -⟩ := Cond.codeWith_spec h2
  cases Option.some.inj (hn9.symm.trans hn)
  obtain ⟨kY, hkY, -⟩ := className_of_methodNamed hn
  have hinitY : kY.init = .initialized := Cond.initialized_spec (findClass_of_methodNamed hn) hkY h3
  have h : At U g.method c below := by rw [hg]; exact X.here
  have hlocals9 : W9 + (maxL + 11) + (headSpec ws rm).room.locals ≤ R.locals := hlocals
  have happ : (headSpec ws rm).appliesLoose y e.platform (U.calling g mk a) = true :=
    Spec.appliesLoose_calling (g := g) h hdg hn hkY hinitY
      (X.room_calling (g := g) (R' := (headSpec ws rm).room) hsize hmY hcY hframes (by rw [hlY]; omega) h4 h5) h1
  obtain ⟨mid, hmid⟩ := h.above
  have hfr : (U.setTop g).frames = (.java g :: mid) ++ below := by rw [State.frames_setTop' g h.top, hmid]; rfl
  obtain ⟨o, s₂, hsteps, -, hend, hq⟩ := Steps.callFree hM p X.admits X.cas X.clock (acts := []) hfr happ hPc trivial
  have hq' : vx_Q Qc XC mc ms free a (U.calling g mk a) o s₂ := hq
  rw [State.frames_setTop' g h.top] at hend
  obtain ⟨g₀, hg0⟩ := Option.isSome_iff_exists.mp h.top
  obtain ⟨r, hr⟩ := State.topJava?_eq_some.mp hg0
  have hr' : (({ U with heap := s₂.heap, slotsUsed := s₂.slotsUsed } : State).setVm s₂.vm).frames = .java g₀ :: r := hr
  rcases hq' with ⟨hqc, L, hfe, hL⟩ | ⟨q, rfl, E, ce, L, hx, hce, hcv, hcl, hW₂, hsm, hL⟩
  · obtain ⟨⟨v, rfl⟩, hW₂, e2, q2, q3, q4, q5, q6⟩ := id hfe
    have e3 : s₂ = ({ (U.calling g mk a).setFrames s₂.frames with heap := s₂.heap, slotsUsed := s₂.slotsUsed } : State).setVm s₂.vm := by
      have : s₂ = ({ s₂ with vm := (U.calling g mk a).vm } : State).setVm s₂.vm := rfl
      rw [e2] at this
      exact this
    obtain ⟨c₂, i₂, len₂, hc₂, hd₂, hf₂⟩ := hend
    have hW' : U.WarmedH s₂.vm := hW₂
    have hcc : c₂ = c := by
      have h1 : s₂.code? g.method = U.code? g.method := by
        rw [State.code?_eq, State.code?_eq, hW'.alike.method?]
      exact Option.some.inj (hc₂.symm.trans (h1.trans h.code))
    subst hcc
    have hlen : len₂ = len := by rw [hdg] at hd₂; cases hd₂; rfl
    subst hlen
    have hs₂ : s₂ = (({ U with heap := s₂.heap, slotsUsed := s₂.slotsUsed } : State).setVm s₂.vm).setTop { g with pc := g.pc + len₂, stack := v.toList ++ g.stack } := by
      refine e3.trans ?_
      rw [hf₂, State.calling_eq h.top, State.setFrames_setFrames, State.setTop_of_frames _ hr', hr]
      rfl
    have hsame : U.sameButNew ({ U with heap := s₂.heap, slotsUsed := s₂.slotsUsed } : State) L mc ms := by
      refine ⟨?_, q2, q3, q4, q5, q6⟩
      obtain ⟨t, ht, -⟩ := State.frames_cons hr
      show ({ U with heap := s₂.heap, slotsUsed := s₂.slotsUsed } : State) = { U.setFrames U.frames with heap := s₂.heap, slotsUsed := s₂.slotsUsed }
      rw [State.setFrames_self ht]
    subst hg
    refine Or.inl ⟨v, ⟨(({ U with heap := s₂.heap, slotsUsed := s₂.slotsUsed } : State).setVm s₂.vm), Ls ++ L, c0 + mc, s0 + ms⟩,
      ⟨X.admits, X.cas, X.clock, X.frames, X.room, X.hears, X.method, X.code, (X.here.setHeapUsed s₂.heap s₂.slotsUsed).setVm hW'.alike, X.tail, State.WarmedH.trans X.warmed hW', X.limits, X.bytes, X.same.trans (hsame.setVm s.vm)⟩,
      ⟨g, mk, s₂, L, rfl, rfl, hqc, rfl, hL, rfl, rfl⟩, ?_⟩
    show Steps p.tables e below _ ((({ U with heap := s₂.heap, slotsUsed := s₂.slotsUsed } : State).setVm s₂.vm).setTop { g with pc := g.pc + len₂, stack := v.toList ++ g.stack })
    rw [← hs₂]
    exact hsteps
  · obtain ⟨e2, q2, q3, q4, q5, q6⟩ := id hsm
    have e3 : s₂ = ({ (U.calling g mk a).setFrames s₂.frames with heap := s₂.heap, slotsUsed := s₂.slotsUsed } : State).setVm s₂.vm := by
      have : s₂ = ({ s₂ with vm := (U.calling g mk a).vm } : State).setVm s₂.vm := rfl
      rw [e2] at this
      exact this
    have hf₂ : s₂.frames = .throwing q :: .java g :: U.frames.tail := hend
    have hW' : U.WarmedH s₂.vm := hW₂
    have hs₂ : s₂ = ((({ U with heap := s₂.heap, slotsUsed := s₂.slotsUsed } : State).setVm s₂.vm).setTop g).pushFrame (.throwing q) := by
      refine e3.trans ?_
      rw [hf₂, State.calling_eq h.top, State.setFrames_setFrames, State.pushFrame, State.frames_setTop _ hr', State.setTop_of_frames _ hr', State.setFrames_setFrames, hr]
      rfl
    have hsame : U.sameButNew ({ U with heap := s₂.heap, slotsUsed := s₂.slotsUsed } : State) L mc ms := by
      refine ⟨?_, q2, q3, q4, q5, q6⟩
      obtain ⟨t, ht, -⟩ := State.frames_cons hr
      show ({ U with heap := s₂.heap, slotsUsed := s₂.slotsUsed } : State) = { U.setFrames U.frames with heap := s₂.heap, slotsUsed := s₂.slotsUsed }
      rw [State.setFrames_self ht]
    subst hg
    refine Or.inr ⟨q, ⟨(({ U with heap := s₂.heap, slotsUsed := s₂.slotsUsed } : State).setVm s₂.vm), Ls ++ L, c0 + mc, s0 + ms⟩,
      ⟨X.admits, X.cas, X.clock, X.frames, X.room, X.hears, X.method, X.code, (X.here.setHeapUsed s₂.heap s₂.slotsUsed).setVm hW'.alike, X.tail, State.WarmedH.trans X.warmed hW', X.limits, X.bytes, X.same.trans (hsame.setVm s.vm)⟩,
      ⟨g, mk, s₂, L, E, ce, rfl, rfl, hx, hce, hcv, hcl, rfl, hL, rfl, rfl⟩, ?_⟩
    show Steps p.tables e below _ (((({ U with heap := s₂.heap, slotsUsed := s₂.slotsUsed } : State).setVm s₂.vm).setTop g).pushFrame (.throwing q))
    rw [← hs₂]
    exact hsteps
end
variable {p : Program} {l : Launch} {e : Env} {R : Room} {s : State} {m : MethodId} {args : Array Value} {below : List Frame} {meth : Method} {c : Code} {T : State} {H : Heap} {locs : List Loc} {cells slots : Nat}
theorem vx_callVX (X : Stand p l e R s m args below meth c T locs cells slots) (hexec : p.tables.exec = Jvm.exec) {own C : String} {index : Nat} {y : MethodName} {bytes : ByteArray} {maxL : Nat} {ret : Option FieldType} {hh : List (Nat × Nat × Nat × Nat)}
    (hown : s.vm.findClass own = some m.cls) (hlink : (Cond.methodLink own index y).before args s = true) (hinst : (Cond.instanceMethod y).before args s = true) (hsel : (Cond.selects C y y).before args s = true)
    (hcode : (Cond.codeWith y bytes maxL ret hh).before args s = true) (hy : y.cls ≠ "java/lang/invoke/MethodHandle" ∧ y.cls ≠ "java/lang/invoke/VarHandle")
    {W9 : Nat} {Pre : Pt → Array Value → Prop} {Post : Pt → Array Value → Option Value → Pt → Prop} {PostX : Pt → Array Value → Addr → Pt → Prop} (hK : vx_Back l R p e below s args y 3 W9 Pre Post PostX)
    {b : Addr} {cellB : Cell} (hcell : T.heap[b]? = some cellB) (hobj : cellB.vm.isStatics = false) (hcls : s.vm.findClass C = some cellB.cls)
    {g : JFrame} (hg : g.method = m) (hsize : g.locals.size = c.maxLocals) {argsL rest : List Value} (hlen : ∀ sig, parseMethodDescriptor y.desc = some sig → argsL.length = sig.parameters.length)
    (hstack : g.stack = argsL.reverse ++ .ref b :: rest) (hW : 2 * g.monitorRoom + (rest.map fun v => v.category).sum ≤ W9) (hdg : decode c.code g.pc = .ok (.invokevirtual index, 3))
    (hpre : ∀ vm₁, s.WarmedH vm₁ → Pre ⟨T.setVm vm₁, locs, cells, slots⟩ (Value.ref b :: argsL).toArray) :
    (∃ (v : Option Value) (vm₁ : Vm) (B : Pt), s.WarmedH vm₁ ∧ Stand p l e R s m args below meth c B.U B.locs B.cells B.slots ∧ Post ⟨T.setVm vm₁, locs, cells, slots⟩ (Value.ref b :: argsL).toArray v B ∧
      ∀ target, Steps p.tables e below (B.U.setTop { g with pc := g.pc + 3, stack := v.toList ++ rest }) target → Steps p.tables e below (T.setTop g) target) ∨
    (∃ (q : Addr) (vm₁ : Vm) (B : Pt), s.WarmedH vm₁ ∧ Stand p l e R s m args below meth c B.U B.locs B.cells B.slots ∧ PostX ⟨T.setVm vm₁, locs, cells, slots⟩ (Value.ref b :: argsL).toArray q B ∧
      Steps p.tables e below (T.setTop g) ((B.U.setTop { g with stack := rest }).pushFrame (.throwing q))) := by
  obtain ⟨mk, methM, hnamed, hmethM, hstM, habM⟩ := Cond.instanceMethod_spec hinst
  obtain ⟨m8, methM', cM, hn8, hmethM', -, -, -, -, -, -, hsigM⟩ := Cond.codeWith_spec hcode
  cases Option.some.inj (hn8.symm.trans hnamed)
  cases hmethM.symm.trans hmethM'
  obtain ⟨c2, r2, m2, q1, q2, q3, q4, kP, hkP, hkPi⟩ := Cond.selects_spec hsel
  cases hcls.symm.trans q1
  cases (State.methodFound?_of_named hnamed hy).symm.trans q2
  cases hnamed.symm.trans q3
  have hselP : selectMethod e.platform s.vm cellB.cls mk = .method mk := by rw [Launch.admits_selectMethod X.admits]; exact q4
  obtain ⟨vm₁, X₁, hstep₁⟩ := X.invokevirtual hexec hown hlink hnamed hmethM hstM hkP hkPi hy (a := b) (cell := cellB) hcell
    (fun z h => by rw [h] at hobj; cases hobj) hselP hmethM habM hkP hkPi (g := g) hg (argsL := argsL) (rest := rest) (hlen _ hsigM) hstack hdg
  rcases hK m meth c ⟨T.setVm vm₁, locs, cells, slots⟩ { g with stack := rest } (.invokevirtual index) mk (Value.ref b :: argsL).toArray X₁ hg hsize hdg hW (X₁.named hnamed) (hpre vm₁ X₁.warmed) with ⟨v, B, X', hpost, hsteps⟩ | ⟨q, B, X', hpost, hsteps⟩
  · exact Or.inl ⟨v, vm₁, B, X₁.warmed, X', hpost, fun target h => hstep₁ _ fun acts => by rw [doInvoke_state]; exact hsteps.trans h⟩
  · exact Or.inr ⟨q, vm₁, B, X₁.warmed, X', hpost, hstep₁ _ fun acts => by rw [doInvoke_state]; exact hsteps⟩
theorem vx_callSX (X : Stand p l e R s m args below meth c T locs cells slots) (hexec : p.tables.exec = Jvm.exec) {own : String} {index : Nat} {y : MethodName} {bytes : ByteArray} {maxL : Nat} {ret : Option FieldType} {hh : List (Nat × Nat × Nat × Nat)}
    (hown : s.vm.findClass own = some m.cls) (hlink : (Cond.methodLink own index y).before args s = true) (hstat : (Cond.static y).before args s = true) (hinit : (Cond.initialized y.cls).before args s = true)
    (hcode : (Cond.codeWith y bytes maxL ret hh).before args s = true) (hy : y.cls ≠ "java/lang/invoke/MethodHandle" ∧ y.cls ≠ "java/lang/invoke/VarHandle")
    {W9 : Nat} {Pre : Pt → Array Value → Prop} {Post : Pt → Array Value → Option Value → Pt → Prop} {PostX : Pt → Array Value → Addr → Pt → Prop} (hK : vx_Back l R p e below s args y 3 W9 Pre Post PostX)
    {g : JFrame} (hg : g.method = m) (hsize : g.locals.size = c.maxLocals) {argsL rest : List Value} (hlen : ∀ sig, parseMethodDescriptor y.desc = some sig → argsL.length = sig.parameters.length)
    (hstack : g.stack = argsL.reverse ++ rest) (hW : 2 * g.monitorRoom + (rest.map fun v => v.category).sum ≤ W9) (hdg : decode c.code g.pc = .ok (.invokestatic index, 3))
    (hpre : ∀ vm₁, s.WarmedH vm₁ → Pre ⟨T.setVm vm₁, locs, cells, slots⟩ argsL.toArray) :
    (∃ (v : Option Value) (vm₁ : Vm) (B : Pt), s.WarmedH vm₁ ∧ Stand p l e R s m args below meth c B.U B.locs B.cells B.slots ∧ Post ⟨T.setVm vm₁, locs, cells, slots⟩ argsL.toArray v B ∧
      ∀ target, Steps p.tables e below (B.U.setTop { g with pc := g.pc + 3, stack := v.toList ++ rest }) target → Steps p.tables e below (T.setTop g) target) ∨
    (∃ (q : Addr) (vm₁ : Vm) (B : Pt), s.WarmedH vm₁ ∧ Stand p l e R s m args below meth c B.U B.locs B.cells B.slots ∧ PostX ⟨T.setVm vm₁, locs, cells, slots⟩ argsL.toArray q B ∧
      Steps p.tables e below (T.setTop g) ((B.U.setTop { g with stack := rest }).pushFrame (.throwing q))) := by
  obtain ⟨mk, methM, cM, hnamed, hmethM, -, -, -, -, -, -, hsigM⟩ := Cond.codeWith_spec hcode
  have hstatic : methM.isStatic = true := Cond.static_spec hnamed hmethM hstat
  obtain ⟨kP, hkP, -⟩ := className_of_methodNamed hnamed
  have hinitP : kP.init = .initialized := Cond.initialized_spec (findClass_of_methodNamed hnamed) hkP hinit
  obtain ⟨vm₁, X₁, hstep₁⟩ := X.invokestatic hexec hown hlink hnamed hmethM hstatic hkP hinitP hy (g := g) hg (argsL := argsL) (rest := rest) (hlen _ hsigM) hstack hdg
  rcases hK m meth c ⟨T.setVm vm₁, locs, cells, slots⟩ { g with stack := rest } (.invokestatic index) mk argsL.toArray X₁ hg hsize hdg hW (X₁.named hnamed) (hpre vm₁ X₁.warmed) with ⟨v, B, X', hpost, hsteps⟩ | ⟨q, B, X', hpost, hsteps⟩
  · exact Or.inl ⟨v, vm₁, B, X₁.warmed, X', hpost, fun target h => hstep₁ _ fun acts => by rw [doInvoke_state]; exact hsteps.trans h⟩
  · exact Or.inr ⟨q, vm₁, B, X₁.warmed, X', hpost, hstep₁ _ fun acts => by rw [doInvoke_state]; exact hsteps⟩
theorem vx_callVW (X : Stand p l e R s m args below meth c T locs cells slots) (hexec : p.tables.exec = Jvm.exec) {own C : String} {index : Nat} {y : MethodName} {bytes : ByteArray} {maxL : Nat} {ret : Option FieldType} {hh : List (Nat × Nat × Nat × Nat)}
    (hown : s.vm.findClass own = some m.cls) (hlink : (Cond.methodLink own index y).before args s = true) (hinst : (Cond.instanceMethod y).before args s = true) (hsel : (Cond.selects C y y).before args s = true)
    (hcode : (Cond.codeWith y bytes maxL ret hh).before args s = true) (hy : y.cls ≠ "java/lang/invoke/MethodHandle" ∧ y.cls ≠ "java/lang/invoke/VarHandle")
    {W9 : Nat} {Pre : Pt → Array Value → Prop} {Post : Pt → Array Value → Option Value → Pt → Prop} (hK : Back l R p e below s args y 3 W9 Pre Post)
    {b : Addr} {cellB : Cell} (hcell : T.heap[b]? = some cellB) (hobj : cellB.vm.isStatics = false) (hcls : s.vm.findClass C = some cellB.cls)
    {g : JFrame} (hg : g.method = m) (hsize : g.locals.size = c.maxLocals) {argsL rest : List Value} (hlen : ∀ sig, parseMethodDescriptor y.desc = some sig → argsL.length = sig.parameters.length)
    (hstack : g.stack = argsL.reverse ++ .ref b :: rest) (hW : 2 * g.monitorRoom + (rest.map fun v => v.category).sum ≤ W9) (hdg : decode c.code g.pc = .ok (.invokevirtual index, 3))
    (hpre : ∀ vm₁, s.WarmedH vm₁ → Pre ⟨T.setVm vm₁, locs, cells, slots⟩ (Value.ref b :: argsL).toArray) :
    ∃ (v : Option Value) (vm₁ : Vm) (B : Pt), s.WarmedH vm₁ ∧ Stand p l e R s m args below meth c B.U B.locs B.cells B.slots ∧ Post ⟨T.setVm vm₁, locs, cells, slots⟩ (Value.ref b :: argsL).toArray v B ∧
      ∀ target, Steps p.tables e below (B.U.setTop { g with pc := g.pc + 3, stack := v.toList ++ rest }) target → Steps p.tables e below (T.setTop g) target := by
  obtain ⟨mk, methM, hnamed, hmethM, hstM, habM⟩ := Cond.instanceMethod_spec hinst
  obtain ⟨m8, methM', cM, hn8, hmethM', -, -, -, -, -, -, hsigM⟩ := Cond.codeWith_spec hcode
  cases Option.some.inj (hn8.symm.trans hnamed)
  cases hmethM.symm.trans hmethM'
  obtain ⟨c2, r2, m2, q1, q2, q3, q4, kP, hkP, hkPi⟩ := Cond.selects_spec hsel
  cases hcls.symm.trans q1
  cases (State.methodFound?_of_named hnamed hy).symm.trans q2
  cases hnamed.symm.trans q3
  have hselP : selectMethod e.platform s.vm cellB.cls mk = .method mk := by rw [Launch.admits_selectMethod X.admits]; exact q4
  obtain ⟨vm₁, X₁, hstep₁⟩ := X.invokevirtual hexec hown hlink hnamed hmethM hstM hkP hkPi hy (a := b) (cell := cellB) hcell
    (fun z h => by rw [h] at hobj; cases hobj) hselP hmethM habM hkP hkPi (g := g) hg (argsL := argsL) (rest := rest) (hlen _ hsigM) hstack hdg
  obtain ⟨v, B, X', hpost, hsteps⟩ := hK m meth c ⟨T.setVm vm₁, locs, cells, slots⟩ { g with stack := rest } (.invokevirtual index) mk (Value.ref b :: argsL).toArray X₁ hg hsize hdg hW (X₁.named hnamed) (hpre vm₁ X₁.warmed)
  exact ⟨v, vm₁, B, X₁.warmed, X', hpost, fun target h => hstep₁ _ fun acts => by rw [doInvoke_state]; exact hsteps.trans h⟩
abbrev vx_CVW (R : Room) (s : State) (args : Array Value) (own C : String) (index : Nat) (y : MethodName) (bytes : ByteArray) (maxL : Nat) (ret : Option FieldType) (hh : List (Nat × Nat × Nat × Nat)) (ws : List Cond) (rm : Room) (mc ms n : Nat) : Prop :=
  (rm.cells = mc ∧ rm.slots = ms ∧ rm.frames + 1 ≤ R.frames ∧ 8 + (maxL + 11) + rm.locals ≤ R.locals ∧ (∀ w ∈ ws, ∀ (a' : Array Value) (U : State), s.WarmedH U.vm → w.before a' U = true) ∧ Cond.codeWith y bytes maxL ret hh ∈ ws) ∧
  (Cond.codeWith y bytes maxL ret hh).before args s = true ∧ (Cond.initialized y.cls).before args s = true ∧ (y.cls ≠ "java/lang/invoke/MethodHandle" ∧ y.cls ≠ "java/lang/invoke/VarHandle") ∧
  (∀ sig, parseMethodDescriptor y.desc = some sig → n = sig.parameters.length) ∧ (Cond.methodLink own index y).before args s = true ∧ (Cond.instanceMethod y).before args s = true ∧ (Cond.selects C y y).before args s = true
theorem vx_cwVW {own C : String} {index maxL mc ms : Nat} {y : MethodName} {bytes : ByteArray} {ret : Option FieldType} {hh : List (Nat × Nat × Nat × Nat)} {Ts ws ws' : List Cond} {rm : Room} (n : Nat) (ht : ∀ w ∈ Ts, w.before args s = true) (hT : GoodIn Ts (wsV own index C y ws)) (hw : ws = Cond.codeWith y bytes maxL ret hh :: ws') (hrc : rm.cells = mc) (hrs : rm.slots = ms)
    (hd : y.cls = C ∧ y.cls ≠ "java/lang/invoke/MethodHandle" ∧ y.cls ≠ "java/lang/invoke/VarHandle" ∧ (parseMethodDescriptor y.desc).map (fun d => d.parameters.length) = some n) (hR : rm.frames + 1 ≤ R.frames ∧ 8 + (maxL + 11) + rm.locals ≤ R.locals) :
    vx_CVW R s args own C index y bytes maxL ret hh ws rm mc ms n := by
  obtain ⟨hC, hd⟩ := hd
  subst hC
  have ok : ∀ w ∈ wsV own index y.cls y ws, w.before args s = true := fun w h => ht w (hT w h).1
  have hG : GoodIn Ts ws := fun w h => hT w (by unfold wsV; exact List.mem_append_right _ h)
  have hc : Cond.codeWith y bytes maxL ret hh ∈ ws := by rw [hw]; exact List.mem_cons_self
  refine ⟨⟨hrc, hrs, hR.1, hR.2, pay_in ht hG, hc⟩, ht _ (hG _ hc).1, ok _ (by simp [wsV]), ⟨hd.1, hd.2.1⟩, fun sig h => ?_, ok _ (by simp [wsV]), ok _ (by simp [wsV]), ok _ (by simp [wsV])⟩
  have h2 := hd.2.2
  rw [h] at h2
  exact (Option.some.inj h2).symm
theorem vx_runVW {y : MethodName} {bytes cc : ByteArray} {maxL nL mc ms n index : Nat} {ret : Option FieldType} {hh : List (Nat × Nat × Nat × Nat)} {ws : List Cond} {rm : Room} {Pc : Array Value → State → Prop} {Qc : Array Value → State → Outcome → State → Prop} {free : Addr → Prop} {Ts : List Cond} {own C : String} {b : Addr} {As rest : List Value} {g : JFrame}
    (S : CallFix p m c cc nL s args Ts own) (hM : Met l y ws rm Pc Qc mc ms free) (cw : vx_CVW R s args own C index y bytes maxL ret hh ws rm mc ms n) (hp : PreV s H C b Pc As)
    (hg : g.method = m) (hn : As.length = n) (hsize : g.locals.size = nL) (hstack : g.stack = As.reverse ++ .ref b :: rest) (hW : 2 * g.monitorRoom + (rest.map fun v => v.category).sum ≤ 8) (hdg : decode cc g.pc = .ok (.invokevirtual index, 3)) (hf : cells + mc ≤ R.cells ∧ slots + ms ≤ R.slots) :
    va_Run p l e R s m args below meth c H locs cells slots mc ms g rest (Qc (Value.ref b :: As).toArray) free := by
  obtain ⟨⟨hrc, hrs, hfr, hlo, hws, hcw⟩, hcode, hini, hy, hlen, hl, hin, hse⟩ := cw
  have hK : Back l R p e below s args y 3 8 (PreOf R mc ms Pc) (PostOf Qc mc ms free) := va_backW (hh := hh) (bytes := bytes) (maxL := maxL) (ret := ret) hM hp.1 hrc hrs hfr hlo hws hcw (fun a' U hW => word_at hW (Or.inl (by first | rfl | simp [Cond.onTables, Cond.keeps, Cond.steady])) hini)
  obtain ⟨hx, hb, hml, ho, -⟩ := S
  obtain ⟨-, ⟨cellB, hcB, hoB, hclB⟩, hPc⟩ := hp
  intro T hT X
  obtain ⟨v, vm₁, ⟨U', l2, c2, s2⟩, hW₁, X', ⟨g', mk, t, L, e1, e2, hq, h1, hL, h2, h3⟩, st⟩ := vx_callVW X hx (C := C) (hh := hh) (bytes := bytes) (maxL := maxL) (ret := ret) ho hl hin hse hcode hy hK (by rw [hT]; exact hcB) hoB hclB hg (hsize.trans hml.symm) (argsL := As) (rest := rest) (fun sig h => hn.trans (hlen sig h)) hstack hW (by rw [hb]; exact hdg)
    (fun vm₁ hW₁ => ⟨hf.1, hf.2, hPc (T.setVm vm₁) hT hW₁⟩)
  dsimp only [Pt.U, Pt.locs, Pt.cells, Pt.slots] at X' e1 e2 h1 h2 h3 st
  subst h1; subst h2; subst h3
  exact ⟨v, (T.setVm vm₁).calling g' mk (Value.ref b :: As).toArray, t, U', L, hT, X', hL, e1, e2, hq, st⟩
section
variable {y : MethodName} {bytes cc : ByteArray} {maxL nL mc ms n index : Nat} {ret : Option FieldType} {ws : List Cond} {rm : Room} {Pc : Array Value → State → Prop} {Qc : Array Value → State → Outcome → State → Prop} {XC : String → State → State → Prop} {free : Addr → Prop} {Ts : List Cond} {own C : String} {b : Addr} {As rest : List Value} {g : JFrame}
theorem vx_runVX {hh : List (Nat × Nat × Nat × Nat)} (S : CallFix p m c cc nL s args Ts own) (hM : vx_Met l y ws rm Pc Qc XC mc ms free) (cw : vx_CVW R s args own C index y bytes maxL ret hh ws rm mc ms n) (hp : PreV s H C b Pc As)
    (hg : g.method = m) (hn : As.length = n) (hsize : g.locals.size = nL) (hstack : g.stack = As.reverse ++ .ref b :: rest) (hW : 2 * g.monitorRoom + (rest.map fun v => v.category).sum ≤ 8) (hdg : decode cc g.pc = .ok (.invokevirtual index, 3)) (hf : cells + mc ≤ R.cells ∧ slots + ms ≤ R.slots) :
    vx_Run p l e R s m args below meth c H locs cells slots mc ms g rest (Qc (Value.ref b :: As).toArray) XC free := by
  obtain ⟨⟨hrc, hrs, hfr, hlo, hws, hcw⟩, hcode, hini, hy, hlen, hl, hin, hse⟩ := cw
  have hK : vx_Back l R p e below s args y 3 8 (PreOf R mc ms Pc) (PostOf Qc mc ms free) (vx_Post XC mc ms free) := vx_backW (hh := hh) (bytes := bytes) (maxL := maxL) (ret := ret) hM hp.1 hrc hrs hfr hlo hws hcw (fun a' U hW => word_at hW (Or.inl (by first | rfl | simp [Cond.onTables, Cond.keeps, Cond.steady])) hini)
  obtain ⟨hx, hb, hml, ho, -⟩ := S
  obtain ⟨-, ⟨cellB, hcB, hoB, hclB⟩, hPc⟩ := hp
  intro T hT X
  rcases vx_callVX X hx (C := C) (hh := hh) (bytes := bytes) (maxL := maxL) (ret := ret) ho hl hin hse hcode hy hK (by rw [hT]; exact hcB) hoB hclB hg (hsize.trans hml.symm) (argsL := As) (rest := rest) (fun sig h => hn.trans (hlen sig h)) hstack hW (by rw [hb]; exact hdg)
    (fun vm₁ hW₁ => ⟨hf.1, hf.2, hPc (T.setVm vm₁) hT hW₁⟩) with ⟨v, vm₁, ⟨U', l2, c2, s2⟩, hW₁, X', ⟨g', mk, t, L, e1, e2, hq, h1, hL, h2, h3⟩, st⟩ | ⟨q, vm₁, ⟨U', l2, c2, s2⟩, hW₁, X', ⟨g', mk, t, L, E, ce, e1, e2, hq, hce, hcv, hcl, h1, hL, h2, h3⟩, st⟩
  · dsimp only [Pt.U, Pt.locs, Pt.cells, Pt.slots] at X' e1 e2 h1 h2 h3 st
    subst h1; subst h2; subst h3
    exact Or.inl ⟨v, (T.setVm vm₁).calling g' mk (Value.ref b :: As).toArray, t, U', L, hT, X', hL, e1, e2, hq, st⟩
  · dsimp only [Pt.U, Pt.locs, Pt.cells, Pt.slots] at X' e1 e2 h1 h2 h3 st hcl
    subst h1; subst h2; subst h3
    exact Or.inr ⟨q, (T.setVm vm₁).calling g' mk (Value.ref b :: As).toArray, t, U', L, E, ce, hT, X', hL, e1, e2, hq, hce, hcv, vx_cls hW₁ hcl, st⟩
theorem vx_runSX {hh : List (Nat × Nat × Nat × Nat)} (S : CallFix p m c cc nL s args Ts own) (hM : vx_Met l y ws rm Pc Qc XC mc ms free) (cw : vx_CSW R s args own index y bytes maxL ret hh ws rm mc ms n) (hp : PreS s H Pc As)
    (hg : g.method = m) (hn : As.length = n) (hsize : g.locals.size = nL) (hstack : g.stack = As.reverse ++ rest) (hW : 2 * g.monitorRoom + (rest.map fun v => v.category).sum ≤ 8) (hdg : decode cc g.pc = .ok (.invokestatic index, 3)) (hf : cells + mc ≤ R.cells ∧ slots + ms ≤ R.slots) :
    vx_Run p l e R s m args below meth c H locs cells slots mc ms g rest (Qc As.toArray) XC free := by
  obtain ⟨⟨hrc, hrs, hfr, hlo, hws, hcw⟩, hcode, hini, hy, hlen, hl, hstt⟩ := cw
  have hK : vx_Back l R p e below s args y 3 8 (PreOf R mc ms Pc) (PostOf Qc mc ms free) (vx_Post XC mc ms free) := vx_backW (hh := hh) (bytes := bytes) (maxL := maxL) (ret := ret) hM hp.1 hrc hrs hfr hlo hws hcw (fun a' U hW => word_at hW (Or.inl (by first | rfl | simp [Cond.onTables, Cond.keeps, Cond.steady])) hini)
  obtain ⟨hx, hb, hml, ho, -⟩ := S
  intro T hT X
  rcases vx_callSX X hx (hh := hh) (bytes := bytes) (maxL := maxL) (ret := ret) ho hl hstt hini hcode hy hK hg (hsize.trans hml.symm) (argsL := As) (rest := rest) (fun sig h => hn.trans (hlen sig h)) hstack hW (by rw [hb]; exact hdg)
    (fun vm₁ hW₁ => ⟨hf.1, hf.2, hp.2 (T.setVm vm₁) hT hW₁⟩) with ⟨v, vm₁, ⟨U', l2, c2, s2⟩, hW₁, X', ⟨g', mk, t, L, e1, e2, hq, h1, hL, h2, h3⟩, st⟩ | ⟨q, vm₁, ⟨U', l2, c2, s2⟩, hW₁, X', ⟨g', mk, t, L, E, ce, e1, e2, hq, hce, hcv, hcl, h1, hL, h2, h3⟩, st⟩
  · dsimp only [Pt.U, Pt.locs, Pt.cells, Pt.slots] at X' e1 e2 h1 h2 h3 st
    subst h1; subst h2; subst h3
    exact Or.inl ⟨v, (T.setVm vm₁).calling g' mk As.toArray, t, U', L, hT, X', hL, e1, e2, hq, st⟩
  · dsimp only [Pt.U, Pt.locs, Pt.cells, Pt.slots] at X' e1 e2 h1 h2 h3 st hcl
    subst h1; subst h2; subst h3
    exact Or.inr ⟨q, (T.setVm vm₁).calling g' mk As.toArray, t, U', L, E, ce, hT, X', hL, e1, e2, hq, hce, hcv, vx_cls hW₁ hcl, st⟩
end
end VXH
theorem vx_ofWH {l : Launch} {y : MethodName} {ws ws' : List Cond} {rm : Room} {Pc : Array Value → State → Prop} {Qc : Array Value → State → Outcome → State → Prop} {XC : String → State → State → Prop} {mc ms : Nat} {free : Addr → Prop} {cc : ByteArray} {maxL : Nat} {ret : Option FieldType} {hh : List (Nat × Nat × Nat × Nat)}
    (hy : plainName y.cls = true) (hw : ws = Cond.codeWith y cc maxL ret hh :: ws')
    (body : ∀ p e s m args below meth c s₁, BodyLoose p l y (headSpec ws rm) cc maxL ret e s m args below meth c s₁ → c.maxLocals = maxL → Pc args s →
      W p l e (headSpec ws rm).room s m args below meth c s.heap [] 0 0 (vx_MQ below Qc XC args s mc ms free) (entryFrame m args maxL)) : vx_Met l y ws rm Pc Qc XC mc ms free := by
  refine MetFree.of_bodyS (code := cc) (maxLocals := maxL) (ret := ret) hy ?_ ?_
  · intro args s m h hn
    obtain ⟨m9, meth, c, hn9, h1, h2, h3, h4, -, h5, h6, -⟩ := Cond.codeWith_spec (atoms_spec (ws := ws) h _ (by rw [hw]; exact List.mem_cons_self))
    cases hn.symm.trans hn9
    exact ⟨meth, c, h1, h2, h3, h4, h5, h6⟩
  · intro p e s m args below meth c s₁ B hml hP _
    have hh0 : s₁.heap = s.heap := by rw [B.state]; rfl
    obtain ⟨t, a1, o, b1, b2, b3⟩ := body p e s m args below meth c s₁ B hml hP s₁ hh0 (Stand.of_body B)
    exact ⟨t, o, a1, b1, b2, b3⟩
/-! ===== END ===== -/

/-! ===== BEGIN what the machine throws by itself, no traces kept ===== -/
section VXM
set_option maxHeartbeats 1000000 in
/-- the machine throws cls with the message text, no traces kept: from its note over the frame g to 'throwing' over the same frame (follows the proofs of Stand.vmThrowsMessage, Shelf/KitTracedVmS.lean, and Stand.throwsMessageColdBareV, StandMessageColdV.lean, without the step out of the frame) -/
theorem vx_vmAt {p : Program} {l : Launch} {e : Env} {R : Room} {s : State} {m₀ : MethodId} {args : Array Value} {below : List Frame} {meth : Method} {c : Code} {W : State} {locs : List Loc} {cells slots : Nat}
    (X : Stand p l e R s m₀ args below meth c W locs cells slots) (hexec : p.tables.exec = Jvm.exec) (htr : e.platform.stackTraces = false) {cls : String} {names : List String} {text : String}
    (hcls : Bundle.fit cls = true) (hnames : ∀ n ∈ names, Bundle.fit n = true) (hsoe : (cls == "java/lang/StackOverflowError") = false) (hoom : (cls == "java/lang/OutOfMemoryError") = false)
    (h : ∀ a ∈ Bundle.messageArmAtoms cls names, a.before args s = true)
    (hlocs : ∀ x ∈ locs, ∀ cell, s.heap[x.base]? = some cell → cell.vm.isStatics = false)
    (htext : (text == notModelled) = false) (hlimit : ¬ (stringBytes (stringToUtf16 text)).size > e.platform.arrayLengthLimit) (hheap : ¬ (stringBytes (stringToUtf16 text)).size * componentBytes .byte > e.platform.maxHeapBytes)
    {g : JFrame} (hg : g.method = m₀) (hsize : g.locals.size = c.maxLocals)
    (hRframes : names.length + 4 < R.frames) (hRlocals : 2 * g.monitorRoom + (g.stack.map fun v => v.category).sum + 10240 ≤ R.locals) (hshort : 13 * names.length + 55 ≤ 10240)
    (hRcells : cells + 3 ≤ R.cells) (hRslots : slots + ((stringBytes (stringToUtf16 text)).size + 4 + 6) ≤ R.slots) (hlocks : meth.locks = false) :
    ∃ (S : State) (q : Addr) (ce : Cell), (∀ target, Steps p.tables e below ((S.setTop g).pushFrame (.throwing q)) target → Steps p.tables e below ((W.setTop g).pushFrame (.throwNew cls (some text) none)) target) ∧
      Stand p l e R s m₀ args below meth c S locs (cells + 3) (slots + ((stringBytes (stringToUtf16 text)).size + 4 + 6)) ∧ S.heap[q]? = some ce ∧ s.vm.findClass cls = some ce.cls ∧ ce.vm = .none := by
  have howns : e.platform.frameOwnsMonitors = true := by rw [X.admits.platform]
  have hfin : e.platform.finalization = false := by rw [X.admits.platform]
  have hpl : e.platform.magicAccessors = ({} : Platform).magicAccessors := by rw [X.admits.platform]
  have a : ∀ x, x ∈ Bundle.messageArmAtoms cls names → x.holds args s none s [] = true := fun x hx => h x hx
  obtain ⟨T, Z0, L, -, Y⟩ := ThrowableC.of_atoms (args := args) howns hfin hpl (fun x hx => h x (by simp [Bundle.messageArmAtoms, hx]))
  obtain ⟨Z, M, LZ, LM, hnZ⟩ := Init0T.ofS_atoms (args := args) hpl L Y (fun x hx => h x (by simp [Bundle.messageArmAtoms, hx]))
  obtain ⟨P1, Ps, hlen, L1, hL, hP1m, hlink1, hlink⟩ := Bundle.chainS (args := args) hpl hnZ names cls hcls hnames (fun x hx => h x (by simp [Bundle.messageArmAtoms, hx]))
  obtain ⟨Zs, LZs, hn4, hfitv, hfitc⟩ := StringT.of_atoms (args := args) (fun x hx => h x (by simp [Bundle.messageArmAtoms, hx]))
  have hfound : s.vm.findClass cls = some P1.m.cls := findClass_of_methodNamed hP1m
  obtain ⟨c1, kX, hc1, hk, hord, -, -, hn6⟩ := Cond.instantiable_spec (a (.instantiable cls 6) (by simp [Bundle.messageArmAtoms]))
  cases Option.some.inj (hc1.symm.trans hfound)
  have hinit := Cond.initialized_spec hfound hk (a (.initialized cls) (by simp [Bundle.messageArmAtoms]))
  have hctor : kX.findMethod "<init>" "(Ljava/lang/String;)V" = some P1.m.idx := findMethod_of_methodNamed hP1m hk
  have hsel0 : selectMethod e.platform s.vm P1.m.cls T.fill0 = .method T.fill0 := by
    obtain ⟨c2, r2, m2, q1, q2, q3, q4, -⟩ := Cond.selects_spec (a (.selects cls Bundle.tFill0 Bundle.tFill0) (by simp [Bundle.messageArmAtoms]))
    cases Option.some.inj (q1.symm.trans hfound)
    cases Option.some.inj (q2.symm.trans (State.methodFound?_of_named Y.fill0 (by decide)))
    cases Option.some.inj (q3.symm.trans Y.fill0)
    rw [Launch.admits_selectMethod X.admits]; exact q4
  have hselF : selectMethod e.platform s.vm P1.m.cls T.fill = .method T.fill := by
    obtain ⟨c2, r2, m2, q1, q2, q3, q4, -⟩ := Cond.selects_spec (a (.selects cls Bundle.tFill Bundle.tFill) (by simp [Bundle.messageArmAtoms]))
    cases Option.some.inj (q1.symm.trans hfound)
    cases Option.some.inj (q2.symm.trans (State.methodFound?_of_named Y.fill (by decide)))
    cases Option.some.inj (q3.symm.trans Y.fill)
    rw [Launch.admits_selectMethod X.admits]; exact q4
  obtain ⟨cellS0, hcS0, hiss⟩ := Y.statics
  obtain ⟨u0, hu0⟩ := Cond.staticRefV Y.unassigned L.unassignedStatic L.statics hcS0 hiss (a (.isRef (.static Bundle.tN "UNASSIGNED_STACK" Bundle.steD)) (by simp [Bundle.messageArmAtoms]))
  obtain ⟨sen, hsen⟩ := Cond.staticRefV Y.sentinel L.sentinelStatic L.statics hcS0 hiss (a (.isRef (.static Bundle.tN "SUPPRESSED_SENTINEL" Bundle.listD)) (by simp [Bundle.messageArmAtoms]))
  obtain ⟨ci198, i198, fB, hk198, hg198, ha198, hsB, -, hnB, htB, hffB⟩ := Cond.ownField (t := .object "java/lang/Object") Y.found L.cls (by decide +kernel) (a (.fieldLink Bundle.tN 198 Bundle.tN "backtrace" "Ljava/lang/Object;") (by simp [Bundle.messageArmAtoms])) (a (.lays Bundle.tN Bundle.tN "backtrace" "Ljava/lang/Object;") (by simp [Bundle.messageArmAtoms])) e.platform hpl
  obtain ⟨cellS, hcS', heS, -, hkeep⟩ := X.same.2.2.2.2.2 T.aS cellS0 hcS0
  have hcellS : W.heap[T.aS]? = some cellS := hcS'
  have hout' : ∀ i, (⟨T.aS, i⟩ : Loc) ∉ locs := fun i hmem => by
    have := hlocs _ hmem cellS0 hcS0
    rw [hiss] at this; cases this
  have hknownS : cellS.vm ≠ .unknown := by
    rw [heS]; intro hu
    rw [show cellS0.vm = .unknown from hu] at hiss
    cases hiss
  have hvU : cellS.slots[T.fUnassigned.slot]? = some u0.v := by rw [hkeep _ (hout' _)]; exact hu0
  have hvSen : cellS.slots[T.fSentinel.slot]? = some sen.v := by rw [hkeep _ (hout' _)]; exact hsen
  obtain ⟨iM, hffM⟩ := Y.msg
  obtain ⟨tyC, dC, hdC, hdnC⟩ := Cond.laysAt hfound hk Y.cause (a (.lays cls Bundle.tN "cause" "Ljava/lang/Throwable;") (by simp [Bundle.messageArmAtoms]))
  obtain ⟨tyS, dS, hdS, hdnS⟩ := Cond.laysAt hfound hk Y.stack (a (.lays cls Bundle.tN "stackTrace" Bundle.steD) (by simp [Bundle.messageArmAtoms]))
  obtain ⟨tyP, dP, hdP, hdnP⟩ := Cond.laysAt hfound hk Y.supp (a (.lays cls Bundle.tN "suppressedExceptions" Bundle.listD) (by simp [Bundle.messageArmAtoms]))
  obtain ⟨tyM, dM, hdM, hdnM⟩ := Cond.laysAt hfound hk hffM (a (.lays cls Bundle.tN "detailMessage" "Ljava/lang/String;") (by simp [Bundle.messageArmAtoms]))
  obtain ⟨tyB, dB, hdB, hdnB⟩ := Cond.laysAt hfound hk hffB (a (.lays cls Bundle.tN "backtrace" "Ljava/lang/Object;") (by simp [Bundle.messageArmAtoms]))
  have bC := Cond.laysApart hdB hdC hdnB hdnC (by rw [hnB, Y.causeName]; decide)
  have bS := Cond.laysApart hdB hdS hdnB hdnS (by rw [hnB, Y.stackName]; decide)
  have bP := Cond.laysApart hdB hdP hdnB hdnP (by rw [hnB, Y.suppName]; decide)
  have hbk : ((preparedCellV T.toThrowableT (freshCell P1.m.cls kX) (W.heap.size + 2) u0 sen).withEntry W.cur).slots[fB.slot]? = some .null := by
    have := fresh_default (c := P1.m.cls) tyB
    rw [htB] at this
    simpa [preparedCellV, Cell.setSlot, Cell.withEntry, Array.getElem?_setIfInBounds, bC, bS, bP, bC.symm, bS.symm, bP.symm, defaultValue] using this
  have tkC := Takes.of_laid (v := .ref (W.heap.size + 2)) hk hord tyC (by rw [Y.causeType]; rfl)
  have tkS := Takes.of_laid (v := u0.v) hk hord tyS (by rw [Y.stackType]; exact fits_refV_array _ u0)
  have tkP := Takes.of_laid (v := sen.v) hk hord tyP (by rw [Y.suppType]; exact fits_refV_object _ sen)
  have tkM := Takes.of_laid (v := .ref (W.heap.size + 1)) hk hord tyM (by rw [Y.msgType]; rfl)
  have hskip : SkipFacts T e.platform s (fun u => u) u0 ((preparedCellV T.toThrowableT (freshCell P1.m.cls kX) (W.heap.size + 2) u0 sen).withEntry W.cur) := ⟨{ ci198 := ci198, i198 := i198, fBack := fB }, ⟨hk198, hg198, ha198, hsB⟩, hbk, fun _ _ => rfl⟩
  have h0 : At W g.method c below := by rw [hg]; exact X.here
  obtain ⟨hbeyond, hfreeW⟩ := X.vmMayThrow hsize (.throwNew cls (some text) none) (fun f hf => by cases hf) rfl hRlocals
  have hfr' : W.frames.length + Ps.length + 4 < (e.platform.stackLimits W.me).1 := by have := X.framesAbove hRframes; omega
  have hwd' : (stackUse (.java g :: W.frames.tail)).2 + 13 * Ps.length + 55 ≤ (e.platform.stackLimits W.me).2 := by have := X.stackAbove hsize (K := 13 * Ps.length + 55) (by omega); omega
  have hslots : W.slotsUsed + (stringBytes (stringToUtf16 text)).size + Zs.kS.instanceTypes.size + kX.instanceTypes.size ≤ e.platform.maxSlots := by
    have := X.slotsAbove hRslots
    rw [hn4, hn6]
    omega
  obtain ⟨vm', hW', st⟩ := Steps.vmThrowsMessageColdByV p (s₀ := s) (S := W) (g := g) h0 hexec T L Z LZ M LM X.warmed (t := W.cur) rfl Zs LZs P1 L1 Ps hL hlink1 hlink hsoe hoom hfound hk hinit hord hctor
    (Launch.admits_hotImplicitExceptions X.admits) hbeyond hfreeW htext hlimit hheap (X.cellsAbove hRcells) hslots (hfitv _) (hfitc _)
    (Nn := fun u => u) heapOnly_id (fun _ _ => rfl) (fun _ => rfl) (fun u x y => setCell_twice _ _ _ _) (fun _ => Nat.le_refl _) (cN := ((preparedCellV T.toThrowableT (freshCell P1.m.cls kX) (W.heap.size + 2) u0 sen).withEntry W.cur))
    hsel0 hcellS hknownS hvU tkS (fun _ hu => hu) (fun _ hu => hu) rfl rfl rfl (by simp [preparedCellV, Cell.setSlot, Cell.withEntry]) hskip (fun _ _ hA hW _ hroom _ hrest => L.nativeOff p htr hA hW hroom hrest) hselF hvSen tkC tkP tkM Y.objLocals rfl hfr' hwd'
  rw [plainBareV_eq T.toThrowableT (W.heap.size + 2) u0 sen (.ref (W.heap.size + 1)) W.cur rfl rfl] at st
  obtain ⟨-, -, w3, w4, -, -, -⟩ := withThrown_facts e.platform W Zs text P1.m.cls kX
  have X3 := ((X.pushed (bytesOf Zs.cB (stringToUtf16 text))).pushed (stringAt Zs.cS Zs.kS Zs.fv Zs.fc (stringToUtf16 text) W.heap.size)).pushed (freshCell P1.m.cls kX)
  rw [← withString_eq] at X3
  have X4 := X3.noted hW'
  have ha : (W.heap.size + 2) < ((withThrown W Zs text P1.m.cls kX).setVm vm').heap.size := by show _ < (withThrown W Zs text P1.m.cls kX).heap.size; rw [w3]; omega
  have hcell : ((withThrown W Zs text P1.m.cls kX).setVm vm').heap[(W.heap.size + 2)]? = some (freshCell P1.m.cls kX) := w4
  have X5 := ((((X4.stored hcell T.fCause.slot (.ref (W.heap.size + 2))).storedAgain ha T.fStack.slot u0.v).storedAgain ha T.fSupp.slot sen.v).storedAgain ha T.fStack.slot u0.v).storedAgain ha T.fMsg.slot (.ref (W.heap.size + 1))
  obtain ⟨g₁, hfrM⟩ := X5.frames_eq
  have hU : ((((withThrown W Zs text P1.m.cls kX).setVm vm').setCell (W.heap.size + 2) (plainBareV T.toThrowableT (freshCell P1.m.cls kX) (W.heap.size + 2) u0 sen (.ref (W.heap.size + 1)))).setTop g).pushFrame (.throwing (W.heap.size + 2)) = (((withThrown W Zs text P1.m.cls kX).setVm vm').setCell (W.heap.size + 2) (plainBareV T.toThrowableT (freshCell P1.m.cls kX) (W.heap.size + 2) u0 sen (.ref (W.heap.size + 1)))).setFrames (.throwing (W.heap.size + 2) :: .java g :: below) := by
    rw [State.pushFrame, State.frames_setTop _ hfrM, State.setTop_of_frames _ hfrM, State.setFrames_setFrames]
  have b1 : (bytesOf Zs.cB (stringToUtf16 text)).slots.size = (stringBytes (stringToUtf16 text)).size := by
    rw [(Cell.writeAll_facts _ _).2.2]; simp [bytes0]
  have b2 : (stringAt Zs.cS Zs.kS Zs.fv Zs.fc (stringToUtf16 text) W.heap.size).slots.size = 4 := by simp [string0, Cell.setSlot, hn4]
  have b3 : (freshCell P1.m.cls kX).slots.size = 6 := by simp [hn6]
  rw [b1, b2, b3] at X5
  have e9 : slots + (stringBytes (stringToUtf16 text)).size + 4 + 6 = slots + ((stringBytes (stringToUtf16 text)).size + 4 + 6) := by omega
  rw [e9] at X5
  simp only [List.append_assoc, List.cons_append, List.nil_append] at X5
  refine ⟨((withThrown W Zs text P1.m.cls kX).setVm vm').setCell (W.heap.size + 2) (plainBareV T.toThrowableT (freshCell P1.m.cls kX) (W.heap.size + 2) u0 sen (.ref (W.heap.size + 1))), W.heap.size + 2, _, fun target ht => st _ (by rw [X.tail, ← hU]; exact ht),
    X5.forget (fun y hy => ?_), heapAt_setCell_self _ ha, hfound, rfl⟩
  simp only [List.mem_cons, List.not_mem_nil, or_false] at hy
  have hge : s.heap.size ≤ W.heap.size := X.same.2.1
  rcases hy with rfl | rfl | rfl | rfl | rfl <;> exact Nat.le_trans hge (Nat.le_add_right _ 2)
set_option maxHeartbeats 1000000 in
/-- the machine throws NullPointerException, no traces kept: from its note over the frame g to 'throwing' over the same frame (follows the proof of Stand.vmThrowsNpe, Shelf42/KT2.lean; throwsNpeColdBareVAt, Shelf42/NT91.lean, called) -/
theorem vx_npeAt {p : Program} {l : Launch} {e : Env} {R : Room} {s : State} {m₀ : MethodId} {args : Array Value} {below : List Frame} {meth : Method} {c : Code} {W : State} {locs : List Loc} {cells slots : Nat}
    (X : Stand p l e R s m₀ args below meth c W locs cells slots) (hexec : p.tables.exec = Jvm.exec) (htr : e.platform.stackTraces = false) {n : Nat}
    (h : ∀ a ∈ Bundle.npeArmAtoms n, a.before args s = true)
    (hlocs : ∀ x ∈ locs, ∀ cell, s.heap[x.base]? = some cell → cell.vm.isStatics = false)
    {g : JFrame} (hg : g.method = m₀) (hsize : g.locals.size = c.maxLocals)
    (hRframes : 7 < R.frames) (hRlocals : 2 * g.monitorRoom + (g.stack.map fun v => v.category).sum + 10240 ≤ R.locals)
    (hRcells : cells + 1 ≤ R.cells) (hRslots : slots + n ≤ R.slots) (hlocks : meth.locks = false) :
    ∃ (S : State) (q : Addr) (ce : Cell), (∀ target, Steps p.tables e below ((S.setTop g).pushFrame (.throwing q)) target → Steps p.tables e below ((W.setTop g).pushFrame (.throwNew "java/lang/NullPointerException" none none)) target) ∧
      Stand p l e R s m₀ args below meth c S locs (cells + 1) (slots + n) ∧ S.heap[q]? = some ce ∧ s.vm.findClass "java/lang/NullPointerException" = some ce.cls ∧ ce.vm = .none := by
  have howns : e.platform.frameOwnsMonitors = true := by rw [X.admits.platform]
  have hfin : e.platform.finalization = false := by rw [X.admits.platform]
  have hpl : e.platform.magicAccessors = ({} : Platform).magicAccessors := by rw [X.admits.platform]
  have hpl2 : e.platform.arrayCloneIsPublic = true := by rw [X.admits.platform]
  have a' : ∀ x, x ∈ Bundle.npeArmAtoms n → x.holds args s none s [] = true := fun x hx => h x hx
  obtain ⟨T, Z, L, LZ, Y⟩ := ThrowableC.of_atoms (args := args) howns hfin hpl (fun x hx => h x (by simp [Bundle.npeArmAtoms, hx]))
  obtain ⟨N, LN, hcN, hnNF, hordN, hffS⟩ := NpeC.of_atoms (args := args) hpl hpl2 L Y (fun x hx => h x (by simp [Bundle.npeArmAtoms, hx]))
  obtain ⟨P1, L1, hP1m, hP1s⟩ := PassC.of_atoms (args := args) (s := s) hpl (X := Bundle.nN) (Y := Bundle.rN) (by decide) (by decide) LibCode.NullPointerException.Init0.at_0 LibCode.NullPointerException.Init0.at_1 LibCode.NullPointerException.Init0.at_4 (fun x hx => h x (by simp [Bundle.npeArmAtoms, hx]))
  obtain ⟨PR, LR, hPRm, hPRs⟩ := PassC.of_atoms (args := args) (s := s) hpl (X := Bundle.rN) (Y := Bundle.eN) (by decide) (by decide) LibCode.RuntimeException.Init0.at_0 LibCode.RuntimeException.Init0.at_1 LibCode.RuntimeException.Init0.at_4 (fun x hx => h x (by simp [Bundle.npeArmAtoms, hx]))
  obtain ⟨PE, LEx, hPEm, hPEs⟩ := PassC.of_atoms (args := args) (s := s) hpl (X := Bundle.eN) (Y := Bundle.tN) (by decide) (by decide) LibCode.Exception.Init0.at_0 LibCode.Exception.Init0.at_1 LibCode.Exception.Init0.at_4 (fun x hx => h x (by simp [Bundle.npeArmAtoms, hx]))
  have hfound : s.vm.findClass Bundle.nN = some P1.m.cls := findClass_of_methodNamed hP1m
  have ecls : N.cN = P1.m.cls := Option.some.inj (hcN.symm.trans hfound)
  have hk : s.vm.classes[P1.m.cls]? = some N.kN := by rw [← ecls]; exact LN.cls
  have hinit := Cond.initialized_spec hfound hk (a' (.initialized Bundle.nN) (by simp [Bundle.npeArmAtoms]))
  have hctor : N.kN.findMethod "<init>" "()V" = some P1.m.idx := findMethod_of_methodNamed hP1m hk
  obtain ⟨c1, k1, hc1, hk1, -, -, -, hn⟩ := Cond.instantiable_spec (a' (.instantiable Bundle.nN n) (by simp [Bundle.npeArmAtoms]))
  cases Option.some.inj (hc1.symm.trans hfound)
  cases Option.some.inj (hk1.symm.trans hk)
  have hfsz : (freshCell P1.m.cls N.kN).slots.size = n := by simp [hn]
  have hlink1 : P1.sup = PR.m := Option.some.inj (hP1s.symm.trans hPRm)
  have hlinkR : PR.sup = PE.m := Option.some.inj (hPRs.symm.trans hPEm)
  have hlinkE : PE.sup = Z.m T.toThrowableT := Option.some.inj (hPEs.symm.trans Y.init0)
  have hLs : ∀ P, P ∈ [PR, PE] → P.Links0 e.platform s := fun P hP => by
    simp only [List.mem_cons, List.not_mem_nil, or_false] at hP
    rcases hP with rfl | rfl
    · exact LR
    · exact LEx
  have hsel0 : selectMethod e.platform s.vm P1.m.cls T.fill0 = .method T.fill0 := by
    obtain ⟨c2, r2, m2, q1, q2, q3, q4, -⟩ := Cond.selects_spec (a' (.selects Bundle.nN Bundle.tFill0 Bundle.tFill0) (by simp [Bundle.npeArmAtoms]))
    cases Option.some.inj (q1.symm.trans hfound)
    cases Option.some.inj (q2.symm.trans (State.methodFound?_of_named Y.fill0 (by decide)))
    cases Option.some.inj (q3.symm.trans Y.fill0)
    rw [Launch.admits_selectMethod X.admits]; exact q4
  have hselF : selectMethod e.platform s.vm P1.m.cls T.fill = .method N.fill := by
    obtain ⟨c2, r2, m2, q1, q2, q3, q4, -⟩ := Cond.selects_spec (a' (.selects Bundle.nN Bundle.tFill Bundle.nFill) (by simp [Bundle.npeArmAtoms]))
    cases Option.some.inj (q1.symm.trans hfound)
    cases Option.some.inj (q2.symm.trans (State.methodFound?_of_named Y.fill (by decide)))
    cases Option.some.inj (q3.symm.trans hnNF)
    rw [Launch.admits_selectMethod X.admits]; exact q4
  obtain ⟨cellS0, hcS0, hiss⟩ := Y.statics
  obtain ⟨u0, hu0⟩ := Cond.staticRefV Y.unassigned L.unassignedStatic L.statics hcS0 hiss (a' (.isRef (.static Bundle.tN "UNASSIGNED_STACK" Bundle.steD)) (by simp [Bundle.npeArmAtoms]))
  obtain ⟨sen, hsen⟩ := Cond.staticRefV Y.sentinel L.sentinelStatic L.statics hcS0 hiss (a' (.isRef (.static Bundle.tN "SUPPRESSED_SENTINEL" Bundle.listD)) (by simp [Bundle.npeArmAtoms]))
  obtain ⟨ci198, i198, fB, hk198, hg198, ha198, hsB, -, hnB, htB, hffB⟩ := Cond.ownField (t := .object "java/lang/Object") Y.found L.cls (by decide +kernel) (a' (.fieldLink Bundle.tN 198 Bundle.tN "backtrace" Bundle.objD) (by simp [Bundle.npeArmAtoms])) (a' (.lays Bundle.tN Bundle.tN "backtrace" Bundle.objD) (by simp [Bundle.npeArmAtoms])) e.platform hpl
  obtain ⟨cellS, hcS', heS, -, hkeep⟩ := X.same.2.2.2.2.2 T.aS cellS0 hcS0
  have hcellS : W.heap[T.aS]? = some cellS := hcS'
  have hout' : ∀ i, (⟨T.aS, i⟩ : Loc) ∉ locs := fun i hmem => by
    have := hlocs _ hmem cellS0 hcS0
    rw [hiss] at this; cases this
  have hknownS : cellS.vm ≠ .unknown := by
    rw [heS]; intro hu
    rw [show cellS0.vm = .unknown from hu] at hiss
    cases hiss
  have hvU : cellS.slots[T.fUnassigned.slot]? = some u0.v := by rw [hkeep _ (hout' _)]; exact hu0
  have hvSen : cellS.slots[T.fSentinel.slot]? = some sen.v := by rw [hkeep _ (hout' _)]; exact hsen
  obtain ⟨tyC, dC, hdC, hdnC⟩ := Cond.laysAt hfound hk Y.cause (a' (.lays Bundle.nN Bundle.tN "cause" "Ljava/lang/Throwable;") (by simp [Bundle.npeArmAtoms]))
  obtain ⟨tyS, dS, hdS, hdnS⟩ := Cond.laysAt hfound hk Y.stack (a' (.lays Bundle.nN Bundle.tN "stackTrace" Bundle.steD) (by simp [Bundle.npeArmAtoms]))
  obtain ⟨tyP, dP, hdP, hdnP⟩ := Cond.laysAt hfound hk Y.supp (a' (.lays Bundle.nN Bundle.tN "suppressedExceptions" Bundle.listD) (by simp [Bundle.npeArmAtoms]))
  obtain ⟨tyX, dX, hdX, hdnX⟩ := Cond.laysAt hfound hk hffS (a' (.lays Bundle.nN Bundle.nN "extendedMessageState" "I") (by simp [Bundle.npeArmAtoms, Bundle.npeAtoms]))
  obtain ⟨hnX, htX⟩ := State.fieldFound?_type hffS (t := .int) (by decide +kernel)
  have xC := Cond.laysApart hdC hdX hdnC hdnX (by rw [hnX, Y.causeName]; decide)
  have xS := Cond.laysApart hdS hdX hdnS hdnX (by rw [hnX, Y.stackName]; decide)
  have xP := Cond.laysApart hdP hdX hdnP hdnX (by rw [hnX, Y.suppName]; decide)
  have hv0 : (freshCell P1.m.cls N.kN).slots[N.fState.slot]? = some (.int 0) := by
    have := fresh_default (c := P1.m.cls) tyX
    rw [htX] at this; exact this
  obtain ⟨tyB, dB, hdB, hdnB⟩ := Cond.laysAt hfound hk hffB (a' (.lays Bundle.nN Bundle.tN "backtrace" Bundle.objD) (by simp [Bundle.npeArmAtoms]))
  have bC := Cond.laysApart hdB hdC hdnB hdnC (by rw [hnB, Y.causeName]; decide)
  have bS := Cond.laysApart hdB hdS hdnB hdnS (by rw [hnB, Y.stackName]; decide)
  have bP := Cond.laysApart hdB hdP hdnB hdnP (by rw [hnB, Y.suppName]; decide)
  have bX := Cond.laysApart hdB hdX hdnB hdnX (by rw [hnB, hnX]; decide)
  have hbk : ((npeCell N.toNpeT (preparedCellV T.toThrowableT (freshCell P1.m.cls N.kN) W.heap.size u0 sen) W.cur).withEntry W.cur).slots[fB.slot]? = some .null := by
    have := fresh_default (c := P1.m.cls) tyB
    rw [htB] at this
    simpa [npeCell, preparedCellV, Cell.setSlot, Cell.withEntry, Array.getElem?_setIfInBounds, bC, bS, bP, bX, bC.symm, bS.symm, bP.symm, bX.symm, defaultValue] using this
  have tkC := Takes.of_laid (v := .ref W.heap.size) hk hordN tyC (by rw [Y.causeType]; rfl)
  have tkS := Takes.of_laid (v := u0.v) hk hordN tyS (by rw [Y.stackType]; exact fits_refV_array _ u0)
  have tkP := Takes.of_laid (v := sen.v) hk hordN tyP (by rw [Y.suppType]; exact fits_refV_object _ sen)
  have tkX := Takes.of_laid (v := .int 1) hk hordN tyX (by rw [htX]; rfl)
  have hskip : SkipFacts T e.platform s (fun u => u) u0 ((npeCell N.toNpeT (preparedCellV T.toThrowableT (freshCell P1.m.cls N.kN) W.heap.size u0 sen) W.cur).withEntry W.cur) := ⟨{ ci198 := ci198, i198 := i198, fBack := fB }, ⟨hk198, hg198, ha198, hsB⟩, hbk, fun _ _ => rfl⟩
  obtain ⟨vm', X3, st, -⟩ := X.throwsNpeColdBareVAt hexec hg hsize T L Z LZ N LN P1 L1 [PR, PE] hLs hlink1 ⟨hlinkR, hlinkE, trivial⟩ hfound hk hinit hordN hctor hsel0 hselF hcellS hknownS hvU hvSen
    hv0 xC xS xP tkC tkS tkP tkX Y.objLocals hskip (fun _ _ hA hW _ hroom _ hrest => L.nativeOff p htr hA hW hroom hrest) (by simpa using hRframes) hRlocals (by simp) hRcells (by rw [hn]; exact hRslots)
  have hlt : W.heap.size < ((W.pushCell (freshCell P1.m.cls N.kN)).setVm vm').heap.size := by
    show W.heap.size < (W.pushCell (freshCell P1.m.cls N.kN)).heap.size
    rw [State.heap_size_pushCell]; omega
  rw [hfsz] at X3
  obtain ⟨g₁, hfrM⟩ := X3.frames_eq
  have hU : ((((W.pushCell (freshCell P1.m.cls N.kN)).setVm vm').setCell W.heap.size (npeBareV T.toThrowableT N.toNpeT (freshCell P1.m.cls N.kN) W.heap.size u0 sen)).setTop g).pushFrame (.throwing W.heap.size) = (((W.pushCell (freshCell P1.m.cls N.kN)).setVm vm').setCell W.heap.size (npeBareV T.toThrowableT N.toNpeT (freshCell P1.m.cls N.kN) W.heap.size u0 sen)).setFrames (.throwing W.heap.size :: .java g :: below) := by
    rw [State.pushFrame, State.frames_setTop _ hfrM, State.setTop_of_frames _ hfrM, State.setFrames_setFrames]
  refine ⟨_, W.heap.size, _, fun target ht => st.trans (by rw [← hU]; exact ht), X3.forget (fun y hy => ?_), heapAt_setCell_self _ hlt, hfound, rfl⟩
  simp only [List.mem_cons, List.not_mem_nil, or_false] at hy
  have hge : s.heap.size ≤ W.heap.size := X.same.2.1
  rcases hy with rfl | rfl | rfl | rfl | rfl <;> exact hge
/-- the words of a machine's NullPointerException, but the four that speak of the heap -/
def vx_atN (n : Nat) : List Cond := (Bundle.npeArmAtoms n).filter vx_no
/-- the words of a machine's throw with a message, but the four that speak of the heap -/
def vx_atM (X : String) (names : List String) : List Cond := (Bundle.messageArmAtoms X names).filter vx_no
section
variable {p : Program} {l : Launch} {e : Env} {R : Room} {s : State} {m : MethodId} {args : Array Value} {below : List Frame} {meth : Method} {c : Code} {H : Heap} {locs : List Loc} {cells slots : Nat}
/-- a frame seen from a rebased start, seen from the first start again -/
theorem vx_back9 {T S : State} {R' : Room} {k n : Nat} (X : Stand p l e R s m args below meth c T locs cells slots) (Y : Stand p l e R' ((T.setVm s.vm).setFrames (.invoking m args :: below)) m args below meth c T [] 0 0) (Z : Stand p l e R' ((T.setVm s.vm).setFrames (.invoking m args :: below)) m args below meth c S [] k n) :
    Stand p l e R s m args below meth c S locs (cells + k) (slots + n) := by
  have hW0 : s.WarmedH ((T.setVm s.vm).setFrames (.invoking m args :: below)).vm := State.WarmedH.refl s
  refine { admits := X.admits, cas := X.cas, clock := X.clock, frames := X.frames, room := X.room, hears := X.hears, method := X.method, code := X.code, here := Z.here, tail := Z.tail, warmed := State.WarmedH.trans hW0 Z.warmed, limits := Z.limits.trans (Y.limits.symm.trans X.limits), bytes := Z.bytes.trans (Y.bytes.symm.trans X.bytes), same := ?_ }
  obtain ⟨e1, e2⟩ := Z.same
  rw [State.setFrames_setFrames] at e1
  have h2 : (T.setVm s.vm).sameButNew (S.setVm s.vm) [] k n := ⟨e1, e2⟩
  have h3 := X.same.trans h2
  rw [List.append_nil] at h3
  exact h3
/-- from the machine's note that E is thrown here with this text -/
def vx_Note (p : Program) (l : Launch) (e : Env) (R : Room) (s : State) (m : MethodId) (args : Array Value) (below : List Frame) (meth : Method) (c : Code) (H : Heap) (locs : List Loc) (cells slots : Nat) (Q : State → Prop) (g : JFrame) (E text : String) : Prop :=
  ∀ T : State, T.heap = H → Stand p l e R s m args below meth c T locs cells slots → ∃ t, Steps p.tables e below ((T.setTop g).pushFrame (.throwNew E (some text) none)) t ∧ Q t
theorem vx_vm {pc : Nat} {ls : Array Slot} {rest : List Value} {Q : State → Prop} (hexec : p.tables.exec = Jvm.exec) (hl : l.stackTraces = false) {cls text : String} {names : List String} {nb : Nat} {A : Nat → Prop}
    (hcls : Bundle.fit cls = true) (hnames : ∀ n ∈ names, Bundle.fit n = true) (hsoe : (cls == "java/lang/StackOverflowError") = false) (hoom : (cls == "java/lang/OutOfMemoryError") = false)
    (hat : ∀ w ∈ vx_atM cls names, w.before args s = true) (hgood : ∀ w ∈ vx_atM cls names, vx_ot w = true)
    (hU : vx_Zq Bundle.tN "UNASSIGNED_STACK" Bundle.steD A s s.heap) (hN : vx_Zq Bundle.tN "SUPPRESSED_SENTINEL" Bundle.listD A s s.heap) (hS : va_S A s.heap H locs) (hsize : ls.size = c.maxLocals)
    (htext : (text == notModelled) = false) (hnb : (stringBytes (stringToUtf16 text)).size ≤ nb) (hnb1 : nb ≤ 1000)
    (hRframes : names.length + 4 < R.frames) (hRlocals : (rest.map fun v => v.category).sum + 10240 ≤ R.locals) (hshort : 13 * names.length + 55 ≤ 10240) (hRcells : cells + 3 ≤ R.cells) (hRslots : slots + (nb + 10) ≤ R.slots) (hlocks : meth.locks = false)
    (k : ∀ (H1 : Heap) (q9 : Addr) (ce : Cell), H.size ≤ H1.size → (∀ q : Nat, q < H.size → H1[q]? = H[q]?) → va_S A s.heap H1 locs → H1[q9]? = some ce → ce.vm = .none → s.vm.findClass cls = some ce.cls → vx_W p l e R s m args below meth c H1 locs (cells + 3) (slots + (nb + 10)) Q (F0 m pc ls rest) q9) :
    vx_Note p l e R s m args below meth c H locs cells slots Q (F0 m pc ls rest) cls text := by
  intro T hT X
  have htr : e.platform.stackTraces = false := (show e.platform.stackTraces = l.stackTraces by rw [X.admits.platform]).trans hl
  have Y := vx_rebase X (R' := { frames := R.frames, locals := R.locals, cells := 3, slots := nb + 10 }) (Nat.le_refl _) (Nat.le_refl _) hRcells hRslots
  have hhp : ((T.setVm s.vm).setFrames (.invoking m args :: below)).heap = H := hT
  have hW0 : s.WarmedH ((T.setVm s.vm).setFrames (.invoking m args :: below)).vm := State.WarmedH.refl s
  have hat' : ∀ w ∈ vx_atM cls names, w.before args ((T.setVm s.vm).setFrames (.invoking m args :: below)) = true := fun w hw => vx_ot_at hW0 rfl (hgood w hw) (hat w hw)
  have hU' : vx_Zq Bundle.tN "UNASSIGNED_STACK" Bundle.steD A ((T.setVm s.vm).setFrames (.invoking m args :: below)) ((T.setVm s.vm).setFrames (.invoking m args :: below)).heap := by rw [hhp]; exact vx_Zq.moved hW0.alike (hU.kept hS.2.1)
  have hN' : vx_Zq Bundle.tN "SUPPRESSED_SENTINEL" Bundle.listD A ((T.setVm s.vm).setFrames (.invoking m args :: below)) ((T.setVm s.vm).setFrames (.invoking m args :: below)).heap := by rw [hhp]; exact vx_Zq.moved hW0.alike (hN.kept hS.2.1)
  obtain ⟨S, q, ce, st, Z, hce, hcl', hv⟩ := vx_vmAt Y hexec htr (cls := cls) (names := names) (text := text) hcls hnames hsoe hoom (vx_own hat' (vx_isRefq hU'.1) (vx_isRefq hN'.1) hU'.2.word hN'.2.word) (fun x hx => nomatch hx) htext
    (by rw [Launch.admits_arrayLengthLimit X.admits]; omega) (by rw [Launch.admits_maxHeapBytes X.admits]; simp only [componentBytes]; omega)
    (g := F0 m pc ls rest) rfl hsize hRframes (by show 2 * 0 + (rest.map fun v => v.category).sum + 10240 ≤ R.locals; omega) hshort (by show 0 + 3 ≤ 3; omega) (by show 0 + (_ + 4 + 6) ≤ nb + 10; omega) hlocks
  obtain ⟨f1, f2⟩ := vx_frame Z.same
  have f1' : H.size ≤ S.heap.size := by rw [← hT]; exact f1
  have f2' : ∀ q : Nat, q < H.size → S.heap[q]? = H[q]? := fun q hq => by
    rw [← hT]
    exact f2 q (by rw [← hT] at hq; exact hq) (fun z hz => nomatch hz)
  have X5 := vx_back9 X Y Z
  have X6 : Stand p l e R s m args below meth c S locs (cells + 3) (slots + (nb + 10)) := { X5 with same := X5.same.mono (by omega) (by omega) }
  obtain ⟨t, a1, b1⟩ := k S.heap q ce f1' f2' ⟨Nat.le_trans hS.1 f1', fun q h1 h2 => (f2' q (Nat.lt_of_lt_of_le h1 hS.1)).trans (hS.2.1 q h1 h2), hS.2.2⟩ hce hv hcl' S rfl X6
  exact ⟨t, st t a1, b1⟩
/-- from the machine's note that NullPointerException is thrown here -/
def vx_NoteN (p : Program) (l : Launch) (e : Env) (R : Room) (s : State) (m : MethodId) (args : Array Value) (below : List Frame) (meth : Method) (c : Code) (H : Heap) (locs : List Loc) (cells slots : Nat) (Q : State → Prop) (g : JFrame) : Prop :=
  ∀ T : State, T.heap = H → Stand p l e R s m args below meth c T locs cells slots → ∃ t, Steps p.tables e below ((T.setTop g).pushFrame (.throwNew "java/lang/NullPointerException" none none)) t ∧ Q t
theorem vx_npe {pc : Nat} {ls : Array Slot} {rest : List Value} {Q : State → Prop} (hexec : p.tables.exec = Jvm.exec) (hl : l.stackTraces = false) {nb : Nat} {A : Nat → Prop}
    (hat : ∀ w ∈ vx_atN nb, w.before args s = true) (hgood : ∀ w ∈ vx_atN nb, vx_ot w = true)
    (hU : vx_Zq Bundle.tN "UNASSIGNED_STACK" Bundle.steD A s s.heap) (hN : vx_Zq Bundle.tN "SUPPRESSED_SENTINEL" Bundle.listD A s s.heap) (hS : va_S A s.heap H locs) (hsize : ls.size = c.maxLocals)
    (hRframes : 7 < R.frames) (hRlocals : (rest.map fun v => v.category).sum + 10240 ≤ R.locals) (hRcells : cells + 1 ≤ R.cells) (hRslots : slots + nb ≤ R.slots) (hlocks : meth.locks = false)
    (k : ∀ (H1 : Heap) (q9 : Addr) (ce : Cell), H.size ≤ H1.size → (∀ q : Nat, q < H.size → H1[q]? = H[q]?) → va_S A s.heap H1 locs → H1[q9]? = some ce → ce.vm = .none → s.vm.findClass "java/lang/NullPointerException" = some ce.cls → vx_W p l e R s m args below meth c H1 locs (cells + 1) (slots + nb) Q (F0 m pc ls rest) q9) :
    vx_NoteN p l e R s m args below meth c H locs cells slots Q (F0 m pc ls rest) := by
  intro T hT X
  have htr : e.platform.stackTraces = false := (show e.platform.stackTraces = l.stackTraces by rw [X.admits.platform]).trans hl
  have Y := vx_rebase X (R' := { frames := R.frames, locals := R.locals, cells := 1, slots := nb }) (Nat.le_refl _) (Nat.le_refl _) hRcells hRslots
  have hhp : ((T.setVm s.vm).setFrames (.invoking m args :: below)).heap = H := hT
  have hW0 : s.WarmedH ((T.setVm s.vm).setFrames (.invoking m args :: below)).vm := State.WarmedH.refl s
  have hat' : ∀ w ∈ vx_atN nb, w.before args ((T.setVm s.vm).setFrames (.invoking m args :: below)) = true := fun w hw => vx_ot_at hW0 rfl (hgood w hw) (hat w hw)
  have hU' : vx_Zq Bundle.tN "UNASSIGNED_STACK" Bundle.steD A ((T.setVm s.vm).setFrames (.invoking m args :: below)) ((T.setVm s.vm).setFrames (.invoking m args :: below)).heap := by rw [hhp]; exact vx_Zq.moved hW0.alike (hU.kept hS.2.1)
  have hN' : vx_Zq Bundle.tN "SUPPRESSED_SENTINEL" Bundle.listD A ((T.setVm s.vm).setFrames (.invoking m args :: below)) ((T.setVm s.vm).setFrames (.invoking m args :: below)).heap := by rw [hhp]; exact vx_Zq.moved hW0.alike (hN.kept hS.2.1)
  obtain ⟨S, q, ce, st, Z, hce, hcl', hv⟩ := vx_npeAt Y hexec htr (n := nb) (vx_own hat' (vx_isRefq hU'.1) (vx_isRefq hN'.1) hU'.2.word hN'.2.word) (fun x hx => nomatch hx)
    (g := F0 m pc ls rest) rfl hsize hRframes (by show 2 * 0 + (rest.map fun v => v.category).sum + 10240 ≤ R.locals; omega) (by show 0 + 1 ≤ 1; omega) (by show 0 + nb ≤ nb; omega) hlocks
  obtain ⟨f1, f2⟩ := vx_frame Z.same
  have f1' : H.size ≤ S.heap.size := by rw [← hT]; exact f1
  have f2' : ∀ q : Nat, q < H.size → S.heap[q]? = H[q]? := fun q hq => by
    rw [← hT]
    exact f2 q (by rw [← hT] at hq; exact hq) (fun z hz => nomatch hz)
  have X5 := vx_back9 X Y Z
  have X6 : Stand p l e R s m args below meth c S locs (cells + 1) (slots + nb) := { X5 with same := X5.same.mono (by omega) (by omega) }
  obtain ⟨t, a1, b1⟩ := k S.heap q ce f1' f2' ⟨Nat.le_trans hS.1 f1', fun q h1 h2 => (f2' q (Nat.lt_of_lt_of_le h1 hS.1)).trans (hS.2.1 q h1 h2), hS.2.2⟩ hce hv hcl' S rfl X6
  exact ⟨t, st t a1, b1⟩
variable {Q : State → Prop} {cc : ByteArray} {pc : Nat} {ls : Array Slot} {rest : List Value}
theorem vx_idivZ (hexec : p.tables.exec = Jvm.exec) (hb : c.code = cc) {a b : Int32} (h0 : b = 0) (d : decode cc pc = .ok (.idiv, 1)) (k : vx_Note p l e R s m args below meth c H locs cells slots Q (F0 m pc ls rest) "java/lang/ArithmeticException" "/ by zero") :
    W p l e R s m args below meth c H locs cells slots Q (F0 m pc ls (.int b :: .int a :: rest)) := by
  intro T hT X
  obtain ⟨t, st, q⟩ := k T hT X
  exact ⟨t, X.idivZero hexec (g := F0 m pc ls (.int b :: .int a :: rest)) rfl (a := a) (rest := rest) (by rw [h0]) (by rw [hb]; exact d) t st, q⟩
theorem vx_iremZ (hexec : p.tables.exec = Jvm.exec) (hb : c.code = cc) {a b : Int32} (h0 : b = 0) (d : decode cc pc = .ok (.irem, 1)) (k : vx_Note p l e R s m args below meth c H locs cells slots Q (F0 m pc ls rest) "java/lang/ArithmeticException" "/ by zero") :
    W p l e R s m args below meth c H locs cells slots Q (F0 m pc ls (.int b :: .int a :: rest)) := by
  intro T hT X
  obtain ⟨t, st, q⟩ := k T hT X
  exact ⟨t, X.iremZero hexec (g := F0 m pc ls (.int b :: .int a :: rest)) rfl (a := a) (rest := rest) (by rw [h0]) (by rw [hb]; exact d) t st, q⟩
theorem vx_ldivZ (hexec : p.tables.exec = Jvm.exec) (hb : c.code = cc) {a b : Int64} (h0 : b = 0) (d : decode cc pc = .ok (.ldiv, 1)) (k : vx_Note p l e R s m args below meth c H locs cells slots Q (F0 m pc ls rest) "java/lang/ArithmeticException" "/ by zero") :
    W p l e R s m args below meth c H locs cells slots Q (F0 m pc ls (.long b :: .long a :: rest)) := by
  intro T hT X
  obtain ⟨t, st, q⟩ := k T hT X
  exact ⟨t, X.ldivZero hexec (g := F0 m pc ls (.long b :: .long a :: rest)) rfl (a := a) (rest := rest) (by rw [h0]) (by rw [hb]; exact d) t st, q⟩
theorem vx_lremZ (hexec : p.tables.exec = Jvm.exec) (hb : c.code = cc) {a b : Int64} (h0 : b = 0) (d : decode cc pc = .ok (.lrem, 1)) (k : vx_Note p l e R s m args below meth c H locs cells slots Q (F0 m pc ls rest) "java/lang/ArithmeticException" "/ by zero") :
    W p l e R s m args below meth c H locs cells slots Q (F0 m pc ls (.long b :: .long a :: rest)) := by
  intro T hT X
  obtain ⟨t, st, q⟩ := k T hT X
  exact ⟨t, X.lremZero hexec (g := F0 m pc ls (.long b :: .long a :: rest)) rfl (a := a) (rest := rest) (by rw [h0]) (by rw [hb]; exact d) t st, q⟩
theorem vx_ialdZ {D : va_G} {cl : List vw_C} {ws : va_W} {tys : List (ClassId × FieldType)} {a : Nat} (hexec : p.tables.exec = Jvm.exec) (hb : c.code = cc) (hK : va_K D cl tys s) (hP : va_P D cl ws H) (q0 t0 : Nat) {cA : ClassId} {n : Nat} {f : Nat → Int32} (ha : ws[q0]? = some (a, .inl (cA, n, .inl f))) (ht : tys[t0]? = some (cA, .int)) {i : Int32} (hout : ¬ vp_in i n) (hdg : decode cc pc = .ok (.iaload, 1))
    (k : ∀ tx : String, tx = (toString "Index " ++ toString i ++ toString " out of bounds for length " ++ toString n : String) → vx_Note p l e R s m args below meth c H locs cells slots Q (F0 m pc ls rest) "java/lang/ArrayIndexOutOfBoundsException" tx) : W p l e R s m args below meth c H locs cells slots Q (F0 m pc ls (.int i :: .ref a :: rest)) := by
  intro T hT X
  obtain ⟨t, st, q⟩ := k _ rfl T hT X
  refine ⟨t, ?_, q⟩
  have h1 := X.ialoadOut hexec (by rw [hT]; exact hP q0 _ ha) ((hK.2 t0 _ ht).1 n (fun j => .int (f j))) (j := i) (by show (i < 0 ∨ (arrV _ _ _).slots.size ≤ _); rw [arrV_size]; exact Classical.byContradiction hout) (g := F0 m pc ls (.int i :: .ref a :: rest)) rfl (rest := rest) rfl (by rw [hb]; exact hdg) t
  simp only [arrV_size] at h1
  exact h1 st
theorem vx_iastZ {D : va_G} {cl : List vw_C} {ws : va_W} {tys : List (ClassId × FieldType)} {a : Nat} (hexec : p.tables.exec = Jvm.exec) (hb : c.code = cc) (hK : va_K D cl tys s) (hP : va_P D cl ws H) (q0 t0 : Nat) {cA : ClassId} {n : Nat} {f : Nat → Int32} (ha : ws[q0]? = some (a, .inl (cA, n, .inl f))) (ht : tys[t0]? = some (cA, .int)) {i : Int32} {x : Int32} (hout : ¬ vp_in i n) (hdg : decode cc pc = .ok (.iastore, 1))
    (k : ∀ tx : String, tx = (toString "Index " ++ toString i ++ toString " out of bounds for length " ++ toString n : String) → vx_Note p l e R s m args below meth c H locs cells slots Q (F0 m pc ls rest) "java/lang/ArrayIndexOutOfBoundsException" tx) : W p l e R s m args below meth c H locs cells slots Q (F0 m pc ls (.int x :: .int i :: .ref a :: rest)) := by
  intro T hT X
  obtain ⟨t, st, q⟩ := k _ rfl T hT X
  refine ⟨t, ?_, q⟩
  have h1 := X.iastoreOut hexec (by rw [hT]; exact hP q0 _ ha) ((hK.2 t0 _ ht).1 n (fun j => .int (f j))) (j := i) (by show (i < 0 ∨ (arrV _ _ _).slots.size ≤ _); rw [arrV_size]; exact Classical.byContradiction hout) (g := F0 m pc ls (.int x :: .int i :: .ref a :: rest)) rfl (rest := rest) rfl (by rw [hb]; exact hdg) t
  simp only [arrV_size] at h1
  exact h1 st
theorem vx_baldZ {D : va_G} {cl : List vw_C} {ws : va_W} {tys : List (ClassId × FieldType)} {a : Nat} (hexec : p.tables.exec = Jvm.exec) (hb : c.code = cc) (hK : va_K D cl tys s) (hP : va_P D cl ws H) (q0 t0 : Nat) {cA : ClassId} {n : Nat} {f : Nat → Int32} (ha : ws[q0]? = some (a, .inl (cA, n, .inl f))) (ht : tys[t0]? = some (cA, .byte)) {i : Int32} (hout : ¬ vp_in i n) (hdg : decode cc pc = .ok (.baload, 1))
    (k : ∀ tx : String, tx = (toString "Index " ++ toString i ++ toString " out of bounds for length " ++ toString n : String) → vx_Note p l e R s m args below meth c H locs cells slots Q (F0 m pc ls rest) "java/lang/ArrayIndexOutOfBoundsException" tx) : W p l e R s m args below meth c H locs cells slots Q (F0 m pc ls (.int i :: .ref a :: rest)) := by
  intro T hT X
  obtain ⟨t, st, q⟩ := k _ rfl T hT X
  refine ⟨t, ?_, q⟩
  have h1 := X.baloadOut hexec (by rw [hT]; exact hP q0 _ ha) ((hK.2 t0 _ ht).1 n (fun j => .int (f j))) (j := i) (by show (i < 0 ∨ (arrV _ _ _).slots.size ≤ _); rw [arrV_size]; exact Classical.byContradiction hout) (g := F0 m pc ls (.int i :: .ref a :: rest)) rfl (rest := rest) rfl (by rw [hb]; exact hdg) t
  simp only [arrV_size] at h1
  exact h1 st
theorem vx_bastZ {D : va_G} {cl : List vw_C} {ws : va_W} {tys : List (ClassId × FieldType)} {a : Nat} (hexec : p.tables.exec = Jvm.exec) (hb : c.code = cc) (hK : va_K D cl tys s) (hP : va_P D cl ws H) (q0 t0 : Nat) {cA : ClassId} {n : Nat} {f : Nat → Int32} (ha : ws[q0]? = some (a, .inl (cA, n, .inl f))) (ht : tys[t0]? = some (cA, .byte)) {i : Int32} {x : Int32} (hout : ¬ vp_in i n) (hdg : decode cc pc = .ok (.bastore, 1))
    (k : ∀ tx : String, tx = (toString "Index " ++ toString i ++ toString " out of bounds for length " ++ toString n : String) → vx_Note p l e R s m args below meth c H locs cells slots Q (F0 m pc ls rest) "java/lang/ArrayIndexOutOfBoundsException" tx) : W p l e R s m args below meth c H locs cells slots Q (F0 m pc ls (.int x :: .int i :: .ref a :: rest)) := by
  intro T hT X
  obtain ⟨t, st, q⟩ := k _ rfl T hT X
  refine ⟨t, ?_, q⟩
  have h1 := X.bastoreOut hexec (by rw [hT]; exact hP q0 _ ha) ((hK.2 t0 _ ht).1 n (fun j => .int (f j))) (j := i) (by show (i < 0 ∨ (arrV _ _ _).slots.size ≤ _); rw [arrV_size]; exact Classical.byContradiction hout) (g := F0 m pc ls (.int x :: .int i :: .ref a :: rest)) rfl (rest := rest) rfl (by rw [hb]; exact hdg) t
  simp only [arrV_size] at h1
  exact h1 st
theorem vx_zaldZ {D : va_G} {cl : List vw_C} {ws : va_W} {tys : List (ClassId × FieldType)} {a : Nat} (hexec : p.tables.exec = Jvm.exec) (hb : c.code = cc) (hK : va_K D cl tys s) (hP : va_P D cl ws H) (q0 t0 : Nat) {cA : ClassId} {n : Nat} {f : Nat → Int32} (ha : ws[q0]? = some (a, .inl (cA, n, .inl f))) (ht : tys[t0]? = some (cA, .boolean)) {i : Int32} (hout : ¬ vp_in i n) (hdg : decode cc pc = .ok (.baload, 1))
    (k : ∀ tx : String, tx = (toString "Index " ++ toString i ++ toString " out of bounds for length " ++ toString n : String) → vx_Note p l e R s m args below meth c H locs cells slots Q (F0 m pc ls rest) "java/lang/ArrayIndexOutOfBoundsException" tx) : W p l e R s m args below meth c H locs cells slots Q (F0 m pc ls (.int i :: .ref a :: rest)) := by
  intro T hT X
  obtain ⟨t, st, q⟩ := k _ rfl T hT X
  refine ⟨t, ?_, q⟩
  have h1 := X.baloadOut hexec (by rw [hT]; exact hP q0 _ ha) ((hK.2 t0 _ ht).1 n (fun j => .int (f j))) (j := i) (by show (i < 0 ∨ (arrV _ _ _).slots.size ≤ _); rw [arrV_size]; exact Classical.byContradiction hout) (g := F0 m pc ls (.int i :: .ref a :: rest)) rfl (rest := rest) rfl (by rw [hb]; exact hdg) t
  simp only [arrV_size] at h1
  exact h1 st
theorem vx_zastZ {D : va_G} {cl : List vw_C} {ws : va_W} {tys : List (ClassId × FieldType)} {a : Nat} (hexec : p.tables.exec = Jvm.exec) (hb : c.code = cc) (hK : va_K D cl tys s) (hP : va_P D cl ws H) (q0 t0 : Nat) {cA : ClassId} {n : Nat} {f : Nat → Int32} (ha : ws[q0]? = some (a, .inl (cA, n, .inl f))) (ht : tys[t0]? = some (cA, .boolean)) {i : Int32} {x : Int32} (hout : ¬ vp_in i n) (hdg : decode cc pc = .ok (.bastore, 1))
    (k : ∀ tx : String, tx = (toString "Index " ++ toString i ++ toString " out of bounds for length " ++ toString n : String) → vx_Note p l e R s m args below meth c H locs cells slots Q (F0 m pc ls rest) "java/lang/ArrayIndexOutOfBoundsException" tx) : W p l e R s m args below meth c H locs cells slots Q (F0 m pc ls (.int x :: .int i :: .ref a :: rest)) := by
  intro T hT X
  obtain ⟨t, st, q⟩ := k _ rfl T hT X
  refine ⟨t, ?_, q⟩
  have h1 := X.bastoreOut hexec (by rw [hT]; exact hP q0 _ ha) ((hK.2 t0 _ ht).1 n (fun j => .int (f j))) (j := i) (by show (i < 0 ∨ (arrV _ _ _).slots.size ≤ _); rw [arrV_size]; exact Classical.byContradiction hout) (g := F0 m pc ls (.int x :: .int i :: .ref a :: rest)) rfl (rest := rest) rfl (by rw [hb]; exact hdg) t
  simp only [arrV_size] at h1
  exact h1 st
theorem vx_caldZ {D : va_G} {cl : List vw_C} {ws : va_W} {tys : List (ClassId × FieldType)} {a : Nat} (hexec : p.tables.exec = Jvm.exec) (hb : c.code = cc) (hK : va_K D cl tys s) (hP : va_P D cl ws H) (q0 t0 : Nat) {cA : ClassId} {n : Nat} {f : Nat → Int32} (ha : ws[q0]? = some (a, .inl (cA, n, .inl f))) (ht : tys[t0]? = some (cA, .char)) {i : Int32} (hout : ¬ vp_in i n) (hdg : decode cc pc = .ok (.caload, 1))
    (k : ∀ tx : String, tx = (toString "Index " ++ toString i ++ toString " out of bounds for length " ++ toString n : String) → vx_Note p l e R s m args below meth c H locs cells slots Q (F0 m pc ls rest) "java/lang/ArrayIndexOutOfBoundsException" tx) : W p l e R s m args below meth c H locs cells slots Q (F0 m pc ls (.int i :: .ref a :: rest)) := by
  intro T hT X
  obtain ⟨t, st, q⟩ := k _ rfl T hT X
  refine ⟨t, ?_, q⟩
  have h1 := X.caloadOut hexec (by rw [hT]; exact hP q0 _ ha) ((hK.2 t0 _ ht).1 n (fun j => .int (f j))) (j := i) (by show (i < 0 ∨ (arrV _ _ _).slots.size ≤ _); rw [arrV_size]; exact Classical.byContradiction hout) (g := F0 m pc ls (.int i :: .ref a :: rest)) rfl (rest := rest) rfl (by rw [hb]; exact hdg) t
  simp only [arrV_size] at h1
  exact h1 st
theorem vx_castZ {D : va_G} {cl : List vw_C} {ws : va_W} {tys : List (ClassId × FieldType)} {a : Nat} (hexec : p.tables.exec = Jvm.exec) (hb : c.code = cc) (hK : va_K D cl tys s) (hP : va_P D cl ws H) (q0 t0 : Nat) {cA : ClassId} {n : Nat} {f : Nat → Int32} (ha : ws[q0]? = some (a, .inl (cA, n, .inl f))) (ht : tys[t0]? = some (cA, .char)) {i : Int32} {x : Int32} (hout : ¬ vp_in i n) (hdg : decode cc pc = .ok (.castore, 1))
    (k : ∀ tx : String, tx = (toString "Index " ++ toString i ++ toString " out of bounds for length " ++ toString n : String) → vx_Note p l e R s m args below meth c H locs cells slots Q (F0 m pc ls rest) "java/lang/ArrayIndexOutOfBoundsException" tx) : W p l e R s m args below meth c H locs cells slots Q (F0 m pc ls (.int x :: .int i :: .ref a :: rest)) := by
  intro T hT X
  obtain ⟨t, st, q⟩ := k _ rfl T hT X
  refine ⟨t, ?_, q⟩
  have h1 := X.castoreOut hexec (by rw [hT]; exact hP q0 _ ha) ((hK.2 t0 _ ht).1 n (fun j => .int (f j))) (j := i) (by show (i < 0 ∨ (arrV _ _ _).slots.size ≤ _); rw [arrV_size]; exact Classical.byContradiction hout) (g := F0 m pc ls (.int x :: .int i :: .ref a :: rest)) rfl (rest := rest) rfl (by rw [hb]; exact hdg) t
  simp only [arrV_size] at h1
  exact h1 st
theorem vx_saldZ {D : va_G} {cl : List vw_C} {ws : va_W} {tys : List (ClassId × FieldType)} {a : Nat} (hexec : p.tables.exec = Jvm.exec) (hb : c.code = cc) (hK : va_K D cl tys s) (hP : va_P D cl ws H) (q0 t0 : Nat) {cA : ClassId} {n : Nat} {f : Nat → Int32} (ha : ws[q0]? = some (a, .inl (cA, n, .inl f))) (ht : tys[t0]? = some (cA, .short)) {i : Int32} (hout : ¬ vp_in i n) (hdg : decode cc pc = .ok (.saload, 1))
    (k : ∀ tx : String, tx = (toString "Index " ++ toString i ++ toString " out of bounds for length " ++ toString n : String) → vx_Note p l e R s m args below meth c H locs cells slots Q (F0 m pc ls rest) "java/lang/ArrayIndexOutOfBoundsException" tx) : W p l e R s m args below meth c H locs cells slots Q (F0 m pc ls (.int i :: .ref a :: rest)) := by
  intro T hT X
  obtain ⟨t, st, q⟩ := k _ rfl T hT X
  refine ⟨t, ?_, q⟩
  have h1 := X.saloadOut hexec (by rw [hT]; exact hP q0 _ ha) ((hK.2 t0 _ ht).1 n (fun j => .int (f j))) (j := i) (by show (i < 0 ∨ (arrV _ _ _).slots.size ≤ _); rw [arrV_size]; exact Classical.byContradiction hout) (g := F0 m pc ls (.int i :: .ref a :: rest)) rfl (rest := rest) rfl (by rw [hb]; exact hdg) t
  simp only [arrV_size] at h1
  exact h1 st
theorem vx_sastZ {D : va_G} {cl : List vw_C} {ws : va_W} {tys : List (ClassId × FieldType)} {a : Nat} (hexec : p.tables.exec = Jvm.exec) (hb : c.code = cc) (hK : va_K D cl tys s) (hP : va_P D cl ws H) (q0 t0 : Nat) {cA : ClassId} {n : Nat} {f : Nat → Int32} (ha : ws[q0]? = some (a, .inl (cA, n, .inl f))) (ht : tys[t0]? = some (cA, .short)) {i : Int32} {x : Int32} (hout : ¬ vp_in i n) (hdg : decode cc pc = .ok (.sastore, 1))
    (k : ∀ tx : String, tx = (toString "Index " ++ toString i ++ toString " out of bounds for length " ++ toString n : String) → vx_Note p l e R s m args below meth c H locs cells slots Q (F0 m pc ls rest) "java/lang/ArrayIndexOutOfBoundsException" tx) : W p l e R s m args below meth c H locs cells slots Q (F0 m pc ls (.int x :: .int i :: .ref a :: rest)) := by
  intro T hT X
  obtain ⟨t, st, q⟩ := k _ rfl T hT X
  refine ⟨t, ?_, q⟩
  have h1 := X.sastoreOut hexec (by rw [hT]; exact hP q0 _ ha) ((hK.2 t0 _ ht).1 n (fun j => .int (f j))) (j := i) (by show (i < 0 ∨ (arrV _ _ _).slots.size ≤ _); rw [arrV_size]; exact Classical.byContradiction hout) (g := F0 m pc ls (.int x :: .int i :: .ref a :: rest)) rfl (rest := rest) rfl (by rw [hb]; exact hdg) t
  simp only [arrV_size] at h1
  exact h1 st
theorem vx_laldZ {D : va_G} {cl : List vw_C} {ws : va_W} {tys : List (ClassId × FieldType)} {a : Nat} (hexec : p.tables.exec = Jvm.exec) (hb : c.code = cc) (hK : va_K D cl tys s) (hP : va_P D cl ws H) (q0 t0 : Nat) {cA : ClassId} {n : Nat} {f : Nat → Int64} (ha : ws[q0]? = some (a, .inl (cA, n, .inr (.inl f)))) (ht : tys[t0]? = some (cA, .long)) {i : Int32} (hout : ¬ vp_in i n) (hdg : decode cc pc = .ok (.laload, 1))
    (k : ∀ tx : String, tx = (toString "Index " ++ toString i ++ toString " out of bounds for length " ++ toString n : String) → vx_Note p l e R s m args below meth c H locs cells slots Q (F0 m pc ls rest) "java/lang/ArrayIndexOutOfBoundsException" tx) : W p l e R s m args below meth c H locs cells slots Q (F0 m pc ls (.int i :: .ref a :: rest)) := by
  intro T hT X
  obtain ⟨t, st, q⟩ := k _ rfl T hT X
  refine ⟨t, ?_, q⟩
  have h1 := X.laloadOut hexec (by rw [hT]; exact hP q0 _ ha) ((hK.2 t0 _ ht).1 n (fun j => .long (f j))) (j := i) (by show (i < 0 ∨ (arrV _ _ _).slots.size ≤ _); rw [arrV_size]; exact Classical.byContradiction hout) (g := F0 m pc ls (.int i :: .ref a :: rest)) rfl (rest := rest) rfl (by rw [hb]; exact hdg) t
  simp only [arrV_size] at h1
  exact h1 st
theorem vx_lastZ {D : va_G} {cl : List vw_C} {ws : va_W} {tys : List (ClassId × FieldType)} {a : Nat} (hexec : p.tables.exec = Jvm.exec) (hb : c.code = cc) (hK : va_K D cl tys s) (hP : va_P D cl ws H) (q0 t0 : Nat) {cA : ClassId} {n : Nat} {f : Nat → Int64} (ha : ws[q0]? = some (a, .inl (cA, n, .inr (.inl f)))) (ht : tys[t0]? = some (cA, .long)) {i : Int32} {x : Int64} (hout : ¬ vp_in i n) (hdg : decode cc pc = .ok (.lastore, 1))
    (k : ∀ tx : String, tx = (toString "Index " ++ toString i ++ toString " out of bounds for length " ++ toString n : String) → vx_Note p l e R s m args below meth c H locs cells slots Q (F0 m pc ls rest) "java/lang/ArrayIndexOutOfBoundsException" tx) : W p l e R s m args below meth c H locs cells slots Q (F0 m pc ls (.long x :: .int i :: .ref a :: rest)) := by
  intro T hT X
  obtain ⟨t, st, q⟩ := k _ rfl T hT X
  refine ⟨t, ?_, q⟩
  have h1 := X.lastoreOut hexec (by rw [hT]; exact hP q0 _ ha) ((hK.2 t0 _ ht).1 n (fun j => .long (f j))) (j := i) (by show (i < 0 ∨ (arrV _ _ _).slots.size ≤ _); rw [arrV_size]; exact Classical.byContradiction hout) (g := F0 m pc ls (.long x :: .int i :: .ref a :: rest)) rfl (rest := rest) rfl (by rw [hb]; exact hdg) t
  simp only [arrV_size] at h1
  exact h1 st
theorem vx_faldZ {D : va_G} {cl : List vw_C} {ws : va_W} {tys : List (ClassId × FieldType)} {a : Nat} (hexec : p.tables.exec = Jvm.exec) (hb : c.code = cc) (hK : va_K D cl tys s) (hP : va_P D cl ws H) (q0 t0 : Nat) {cA : ClassId} {n : Nat} {f : Nat → UInt32} (ha : ws[q0]? = some (a, .inl (cA, n, .inr (.inr (.inl f))))) (ht : tys[t0]? = some (cA, .float)) {i : Int32} (hout : ¬ vp_in i n) (hdg : decode cc pc = .ok (.faload, 1))
    (k : ∀ tx : String, tx = (toString "Index " ++ toString i ++ toString " out of bounds for length " ++ toString n : String) → vx_Note p l e R s m args below meth c H locs cells slots Q (F0 m pc ls rest) "java/lang/ArrayIndexOutOfBoundsException" tx) : W p l e R s m args below meth c H locs cells slots Q (F0 m pc ls (.int i :: .ref a :: rest)) := by
  intro T hT X
  obtain ⟨t, st, q⟩ := k _ rfl T hT X
  refine ⟨t, ?_, q⟩
  have h1 := X.faloadOut hexec (by rw [hT]; exact hP q0 _ ha) ((hK.2 t0 _ ht).1 n (fun j => .float (f j))) (j := i) (by show (i < 0 ∨ (arrV _ _ _).slots.size ≤ _); rw [arrV_size]; exact Classical.byContradiction hout) (g := F0 m pc ls (.int i :: .ref a :: rest)) rfl (rest := rest) rfl (by rw [hb]; exact hdg) t
  simp only [arrV_size] at h1
  exact h1 st
theorem vx_fastZ {D : va_G} {cl : List vw_C} {ws : va_W} {tys : List (ClassId × FieldType)} {a : Nat} (hexec : p.tables.exec = Jvm.exec) (hb : c.code = cc) (hK : va_K D cl tys s) (hP : va_P D cl ws H) (q0 t0 : Nat) {cA : ClassId} {n : Nat} {f : Nat → UInt32} (ha : ws[q0]? = some (a, .inl (cA, n, .inr (.inr (.inl f))))) (ht : tys[t0]? = some (cA, .float)) {i : Int32} {x : UInt32} (hout : ¬ vp_in i n) (hdg : decode cc pc = .ok (.fastore, 1))
    (k : ∀ tx : String, tx = (toString "Index " ++ toString i ++ toString " out of bounds for length " ++ toString n : String) → vx_Note p l e R s m args below meth c H locs cells slots Q (F0 m pc ls rest) "java/lang/ArrayIndexOutOfBoundsException" tx) : W p l e R s m args below meth c H locs cells slots Q (F0 m pc ls (.float x :: .int i :: .ref a :: rest)) := by
  intro T hT X
  obtain ⟨t, st, q⟩ := k _ rfl T hT X
  refine ⟨t, ?_, q⟩
  have h1 := X.fastoreOut hexec (by rw [hT]; exact hP q0 _ ha) ((hK.2 t0 _ ht).1 n (fun j => .float (f j))) (j := i) (by show (i < 0 ∨ (arrV _ _ _).slots.size ≤ _); rw [arrV_size]; exact Classical.byContradiction hout) (g := F0 m pc ls (.float x :: .int i :: .ref a :: rest)) rfl (rest := rest) rfl (by rw [hb]; exact hdg) t
  simp only [arrV_size] at h1
  exact h1 st
theorem vx_daldZ {D : va_G} {cl : List vw_C} {ws : va_W} {tys : List (ClassId × FieldType)} {a : Nat} (hexec : p.tables.exec = Jvm.exec) (hb : c.code = cc) (hK : va_K D cl tys s) (hP : va_P D cl ws H) (q0 t0 : Nat) {cA : ClassId} {n : Nat} {f : Nat → UInt64} (ha : ws[q0]? = some (a, .inl (cA, n, .inr (.inr (.inr (.inl f)))))) (ht : tys[t0]? = some (cA, .double)) {i : Int32} (hout : ¬ vp_in i n) (hdg : decode cc pc = .ok (.daload, 1))
    (k : ∀ tx : String, tx = (toString "Index " ++ toString i ++ toString " out of bounds for length " ++ toString n : String) → vx_Note p l e R s m args below meth c H locs cells slots Q (F0 m pc ls rest) "java/lang/ArrayIndexOutOfBoundsException" tx) : W p l e R s m args below meth c H locs cells slots Q (F0 m pc ls (.int i :: .ref a :: rest)) := by
  intro T hT X
  obtain ⟨t, st, q⟩ := k _ rfl T hT X
  refine ⟨t, ?_, q⟩
  have h1 := X.daloadOut hexec (by rw [hT]; exact hP q0 _ ha) ((hK.2 t0 _ ht).1 n (fun j => .double (f j))) (j := i) (by show (i < 0 ∨ (arrV _ _ _).slots.size ≤ _); rw [arrV_size]; exact Classical.byContradiction hout) (g := F0 m pc ls (.int i :: .ref a :: rest)) rfl (rest := rest) rfl (by rw [hb]; exact hdg) t
  simp only [arrV_size] at h1
  exact h1 st
theorem vx_dastZ {D : va_G} {cl : List vw_C} {ws : va_W} {tys : List (ClassId × FieldType)} {a : Nat} (hexec : p.tables.exec = Jvm.exec) (hb : c.code = cc) (hK : va_K D cl tys s) (hP : va_P D cl ws H) (q0 t0 : Nat) {cA : ClassId} {n : Nat} {f : Nat → UInt64} (ha : ws[q0]? = some (a, .inl (cA, n, .inr (.inr (.inr (.inl f)))))) (ht : tys[t0]? = some (cA, .double)) {i : Int32} {x : UInt64} (hout : ¬ vp_in i n) (hdg : decode cc pc = .ok (.dastore, 1))
    (k : ∀ tx : String, tx = (toString "Index " ++ toString i ++ toString " out of bounds for length " ++ toString n : String) → vx_Note p l e R s m args below meth c H locs cells slots Q (F0 m pc ls rest) "java/lang/ArrayIndexOutOfBoundsException" tx) : W p l e R s m args below meth c H locs cells slots Q (F0 m pc ls (.double x :: .int i :: .ref a :: rest)) := by
  intro T hT X
  obtain ⟨t, st, q⟩ := k _ rfl T hT X
  refine ⟨t, ?_, q⟩
  have h1 := X.dastoreOut hexec (by rw [hT]; exact hP q0 _ ha) ((hK.2 t0 _ ht).1 n (fun j => .double (f j))) (j := i) (by show (i < 0 ∨ (arrV _ _ _).slots.size ≤ _); rw [arrV_size]; exact Classical.byContradiction hout) (g := F0 m pc ls (.double x :: .int i :: .ref a :: rest)) rfl (rest := rest) rfl (by rw [hb]; exact hdg) t
  simp only [arrV_size] at h1
  exact h1 st
theorem vx_arraylengthN (hexec : p.tables.exec = Jvm.exec) (hb : c.code = cc) (hdg : decode cc pc = .ok (.arraylength, 1)) (k : vx_NoteN p l e R s m args below meth c H locs cells slots Q (F0 m pc ls rest)) : W p l e R s m args below meth c H locs cells slots Q (F0 m pc ls (.null :: rest)) := by
  intro T hT X
  obtain ⟨t, st, q⟩ := k T hT X
  exact ⟨t, X.arraylengthNull hexec (g := F0 m pc ls (.null :: rest)) rfl (rest := rest) rfl (by rw [hb]; exact hdg) t st, q⟩
theorem vx_ialoadN (hexec : p.tables.exec = Jvm.exec) (hb : c.code = cc) {i : Int32} (hdg : decode cc pc = .ok (.iaload, 1)) (k : vx_NoteN p l e R s m args below meth c H locs cells slots Q (F0 m pc ls rest)) : W p l e R s m args below meth c H locs cells slots Q (F0 m pc ls (.int i :: .null :: rest)) := by
  intro T hT X
  obtain ⟨t, st, q⟩ := k T hT X
  exact ⟨t, X.ialoadNull hexec (g := F0 m pc ls (.int i :: .null :: rest)) rfl (rest := rest) rfl (by rw [hb]; exact hdg) t st, q⟩
theorem vx_laloadN (hexec : p.tables.exec = Jvm.exec) (hb : c.code = cc) {i : Int32} (hdg : decode cc pc = .ok (.laload, 1)) (k : vx_NoteN p l e R s m args below meth c H locs cells slots Q (F0 m pc ls rest)) : W p l e R s m args below meth c H locs cells slots Q (F0 m pc ls (.int i :: .null :: rest)) := by
  intro T hT X
  obtain ⟨t, st, q⟩ := k T hT X
  exact ⟨t, X.laloadNull hexec (g := F0 m pc ls (.int i :: .null :: rest)) rfl (rest := rest) rfl (by rw [hb]; exact hdg) t st, q⟩
theorem vx_faloadN (hexec : p.tables.exec = Jvm.exec) (hb : c.code = cc) {i : Int32} (hdg : decode cc pc = .ok (.faload, 1)) (k : vx_NoteN p l e R s m args below meth c H locs cells slots Q (F0 m pc ls rest)) : W p l e R s m args below meth c H locs cells slots Q (F0 m pc ls (.int i :: .null :: rest)) := by
  intro T hT X
  obtain ⟨t, st, q⟩ := k T hT X
  exact ⟨t, X.faloadNull hexec (g := F0 m pc ls (.int i :: .null :: rest)) rfl (rest := rest) rfl (by rw [hb]; exact hdg) t st, q⟩
theorem vx_daloadN (hexec : p.tables.exec = Jvm.exec) (hb : c.code = cc) {i : Int32} (hdg : decode cc pc = .ok (.daload, 1)) (k : vx_NoteN p l e R s m args below meth c H locs cells slots Q (F0 m pc ls rest)) : W p l e R s m args below meth c H locs cells slots Q (F0 m pc ls (.int i :: .null :: rest)) := by
  intro T hT X
  obtain ⟨t, st, q⟩ := k T hT X
  exact ⟨t, X.daloadNull hexec (g := F0 m pc ls (.int i :: .null :: rest)) rfl (rest := rest) rfl (by rw [hb]; exact hdg) t st, q⟩
theorem vx_aaloadN (hexec : p.tables.exec = Jvm.exec) (hb : c.code = cc) {i : Int32} (hdg : decode cc pc = .ok (.aaload, 1)) (k : vx_NoteN p l e R s m args below meth c H locs cells slots Q (F0 m pc ls rest)) : W p l e R s m args below meth c H locs cells slots Q (F0 m pc ls (.int i :: .null :: rest)) := by
  intro T hT X
  obtain ⟨t, st, q⟩ := k T hT X
  exact ⟨t, X.aaloadNull hexec (g := F0 m pc ls (.int i :: .null :: rest)) rfl (rest := rest) rfl (by rw [hb]; exact hdg) t st, q⟩
theorem vx_baloadN (hexec : p.tables.exec = Jvm.exec) (hb : c.code = cc) {i : Int32} (hdg : decode cc pc = .ok (.baload, 1)) (k : vx_NoteN p l e R s m args below meth c H locs cells slots Q (F0 m pc ls rest)) : W p l e R s m args below meth c H locs cells slots Q (F0 m pc ls (.int i :: .null :: rest)) := by
  intro T hT X
  obtain ⟨t, st, q⟩ := k T hT X
  exact ⟨t, X.baloadNull hexec (g := F0 m pc ls (.int i :: .null :: rest)) rfl (rest := rest) rfl (by rw [hb]; exact hdg) t st, q⟩
theorem vx_caloadN (hexec : p.tables.exec = Jvm.exec) (hb : c.code = cc) {i : Int32} (hdg : decode cc pc = .ok (.caload, 1)) (k : vx_NoteN p l e R s m args below meth c H locs cells slots Q (F0 m pc ls rest)) : W p l e R s m args below meth c H locs cells slots Q (F0 m pc ls (.int i :: .null :: rest)) := by
  intro T hT X
  obtain ⟨t, st, q⟩ := k T hT X
  exact ⟨t, X.caloadNull hexec (g := F0 m pc ls (.int i :: .null :: rest)) rfl (rest := rest) rfl (by rw [hb]; exact hdg) t st, q⟩
theorem vx_saloadN (hexec : p.tables.exec = Jvm.exec) (hb : c.code = cc) {i : Int32} (hdg : decode cc pc = .ok (.saload, 1)) (k : vx_NoteN p l e R s m args below meth c H locs cells slots Q (F0 m pc ls rest)) : W p l e R s m args below meth c H locs cells slots Q (F0 m pc ls (.int i :: .null :: rest)) := by
  intro T hT X
  obtain ⟨t, st, q⟩ := k T hT X
  exact ⟨t, X.saloadNull hexec (g := F0 m pc ls (.int i :: .null :: rest)) rfl (rest := rest) rfl (by rw [hb]; exact hdg) t st, q⟩
theorem vx_iastoreN (hexec : p.tables.exec = Jvm.exec) (hb : c.code = cc) {x : Int32} {i : Int32} (hdg : decode cc pc = .ok (.iastore, 1)) (k : vx_NoteN p l e R s m args below meth c H locs cells slots Q (F0 m pc ls rest)) : W p l e R s m args below meth c H locs cells slots Q (F0 m pc ls (.int x :: .int i :: .null :: rest)) := by
  intro T hT X
  obtain ⟨t, st, q⟩ := k T hT X
  exact ⟨t, X.iastoreNull hexec (g := F0 m pc ls (.int x :: .int i :: .null :: rest)) rfl (rest := rest) rfl (by rw [hb]; exact hdg) t st, q⟩
theorem vx_lastoreN (hexec : p.tables.exec = Jvm.exec) (hb : c.code = cc) {x : Int64} {i : Int32} (hdg : decode cc pc = .ok (.lastore, 1)) (k : vx_NoteN p l e R s m args below meth c H locs cells slots Q (F0 m pc ls rest)) : W p l e R s m args below meth c H locs cells slots Q (F0 m pc ls (.long x :: .int i :: .null :: rest)) := by
  intro T hT X
  obtain ⟨t, st, q⟩ := k T hT X
  exact ⟨t, X.lastoreNull hexec (g := F0 m pc ls (.long x :: .int i :: .null :: rest)) rfl (rest := rest) rfl (by rw [hb]; exact hdg) t st, q⟩
theorem vx_fastoreN (hexec : p.tables.exec = Jvm.exec) (hb : c.code = cc) {x : UInt32} {i : Int32} (hdg : decode cc pc = .ok (.fastore, 1)) (k : vx_NoteN p l e R s m args below meth c H locs cells slots Q (F0 m pc ls rest)) : W p l e R s m args below meth c H locs cells slots Q (F0 m pc ls (.float x :: .int i :: .null :: rest)) := by
  intro T hT X
  obtain ⟨t, st, q⟩ := k T hT X
  exact ⟨t, X.fastoreNull hexec (g := F0 m pc ls (.float x :: .int i :: .null :: rest)) rfl (rest := rest) rfl (by rw [hb]; exact hdg) t st, q⟩
theorem vx_dastoreN (hexec : p.tables.exec = Jvm.exec) (hb : c.code = cc) {x : UInt64} {i : Int32} (hdg : decode cc pc = .ok (.dastore, 1)) (k : vx_NoteN p l e R s m args below meth c H locs cells slots Q (F0 m pc ls rest)) : W p l e R s m args below meth c H locs cells slots Q (F0 m pc ls (.double x :: .int i :: .null :: rest)) := by
  intro T hT X
  obtain ⟨t, st, q⟩ := k T hT X
  exact ⟨t, X.dastoreNull hexec (g := F0 m pc ls (.double x :: .int i :: .null :: rest)) rfl (rest := rest) rfl (by rw [hb]; exact hdg) t st, q⟩
theorem vx_bastoreN (hexec : p.tables.exec = Jvm.exec) (hb : c.code = cc) {x : Int32} {i : Int32} (hdg : decode cc pc = .ok (.bastore, 1)) (k : vx_NoteN p l e R s m args below meth c H locs cells slots Q (F0 m pc ls rest)) : W p l e R s m args below meth c H locs cells slots Q (F0 m pc ls (.int x :: .int i :: .null :: rest)) := by
  intro T hT X
  obtain ⟨t, st, q⟩ := k T hT X
  exact ⟨t, X.bastoreNull hexec (g := F0 m pc ls (.int x :: .int i :: .null :: rest)) rfl (rest := rest) rfl (by rw [hb]; exact hdg) t st, q⟩
theorem vx_castoreN (hexec : p.tables.exec = Jvm.exec) (hb : c.code = cc) {x : Int32} {i : Int32} (hdg : decode cc pc = .ok (.castore, 1)) (k : vx_NoteN p l e R s m args below meth c H locs cells slots Q (F0 m pc ls rest)) : W p l e R s m args below meth c H locs cells slots Q (F0 m pc ls (.int x :: .int i :: .null :: rest)) := by
  intro T hT X
  obtain ⟨t, st, q⟩ := k T hT X
  exact ⟨t, X.castoreNull hexec (g := F0 m pc ls (.int x :: .int i :: .null :: rest)) rfl (rest := rest) rfl (by rw [hb]; exact hdg) t st, q⟩
theorem vx_sastoreN (hexec : p.tables.exec = Jvm.exec) (hb : c.code = cc) {x : Int32} {i : Int32} (hdg : decode cc pc = .ok (.sastore, 1)) (k : vx_NoteN p l e R s m args below meth c H locs cells slots Q (F0 m pc ls rest)) : W p l e R s m args below meth c H locs cells slots Q (F0 m pc ls (.int x :: .int i :: .null :: rest)) := by
  intro T hT X
  obtain ⟨t, st, q⟩ := k T hT X
  exact ⟨t, X.sastoreNull hexec (g := F0 m pc ls (.int x :: .int i :: .null :: rest)) rfl (rest := rest) rfl (by rw [hb]; exact hdg) t st, q⟩
theorem vx_invokeN {own C : String} {index maxL : Nat} {y : MethodName} {bytes : ByteArray} {ret : Option FieldType} (hexec : p.tables.exec = Jvm.exec) (hb : c.code = cc) (hown : s.vm.findClass own = some m.cls) (hlink : (Cond.methodLink own index y).before args s = true) (hinst : (Cond.instanceMethod y).before args s = true) (hcode : (Cond.code y bytes maxL ret).before args s = true) (hsel : (Cond.selects C y y).before args s = true)
    (hx : y.cls ≠ "java/lang/invoke/MethodHandle" ∧ y.cls ≠ "java/lang/invoke/VarHandle") {As : List Value} (hlen : (parseMethodDescriptor y.desc).map (fun d => d.parameters.length) = some As.length) (hdg : decode cc pc = .ok (.invokevirtual index, 3))
    (k : vx_NoteN p l e R s m args below meth c H locs cells slots Q (F0 m pc ls rest)) {st0 : List Value} (hst : st0 = As.reverse ++ .null :: rest) : W p l e R s m args below meth c H locs cells slots Q (F0 m pc ls st0) := by
  intro T hT X
  obtain ⟨r0, r, hn, hrm, hstR, hsigR⟩ := va_Decl.of hinst hcode
  obtain ⟨c2, r2, m2, q1, q2, q3, q4, kP, hkP, hkPi⟩ := Cond.selects_spec hsel
  cases hn.symm.trans q3
  have hl9 : As.length = r.sig.parameters.length := by
    rw [hsigR] at hlen
    exact (Option.some.inj hlen).symm
  obtain ⟨vm', X1, st1⟩ := X.invokevirtualNull hexec hown hlink hn hrm hstR hkP hkPi hx (g := F0 m pc ls st0) rfl (argsL := As) (rest := rest) hl9 hst (by rw [hb]; exact hdg)
  obtain ⟨t, st, q⟩ := k (T.setVm vm') hT X1
  exact ⟨t, st1 t st, q⟩
theorem vx_newarrayZ {atype : ArrayType} (hexec : p.tables.exec = Jvm.exec) (hb : c.code = cc) {n : Int32} (h0 : n < 0) (hdg : decode cc pc = .ok (.newarray atype, 2)) (k : ∀ tx : String, tx = toString n → vx_Note p l e R s m args below meth c H locs cells slots Q (F0 m pc ls rest) "java/lang/NegativeArraySizeException" tx) : W p l e R s m args below meth c H locs cells slots Q (F0 m pc ls (.int n :: rest)) := by
  intro T hT X
  obtain ⟨t, st, q⟩ := k _ rfl T hT X
  exact ⟨t, X.newarrayNegative hexec (g := F0 m pc ls (.int n :: rest)) rfl h0 (rest := rest) rfl (by rw [hb]; exact hdg) t st, q⟩
end
end VXM
/-! ===== END ===== -/
end
section
def RX0 : String := "PlateRegister$Notice"
def TX0 : u_T := fun k => match k with
  | 0 => ("PlateRegister$Notice", "number", "I", true)
  | 1 => ("PlateRegister$Notice", "seller", "I", true)
  | 2 => ("PlateRegister$Notice", "vehicle", "I", true)
  | 3 => ("PlateRegister$Notice", "buyer", "I", true)
  | 4 => ("PlateRegister$Notice", "day", "I", true)
  | 5 => ("PlateRegister$Notice", "state", "C", false)
  | _ => ("PlateRegister$Notice", "partner", "I", false)
def tyX0 : Nat → FieldType := fun k => match k with
  | 0 => .int
  | 1 => .int
  | 2 => .int
  | 3 => .int
  | 4 => .int
  | 5 => .char
  | _ => .int
abbrev wsX00 : List Cond := u_ws RX0 TX0 7
theorem nmX0 : ∀ a, a < 7 → ∀ b, b < 7 → a ≠ b → (TX0 a).2.1 ≠ (TX0 b).2.1 := by decide +kernel
theorem tyX0_ok : ∀ k, k < 7 → parseFieldDescriptor (TX0 k).2.2.1 = some (tyX0 k) := by decide +kernel
abbrev cX0_init : ByteArray := prog_2_method_1_code
def yX0_init : MethodName := ⟨RX0, "<init>", "(IIIII)V"⟩
abbrev cX0_isOpenFor : ByteArray := prog_2_method_2_code
def yX0_isOpenFor : MethodName := ⟨RX0, "isOpenFor", "(I)Z"⟩
def RX1 : String := "PlateRegister$Plate"
def TX1 : u_T := fun k => match k with
  | 0 => ("PlateRegister$Plate", "number", "I", true)
  | 1 => ("PlateRegister$Plate", "places", "LPlateRegister$Timeline;", true)
  | 2 => ("PlateRegister$Plate", "keeper", "I", false)
  | _ => ("PlateRegister$Plate", "takenOff", "I", false)
def tyX1 : Nat → FieldType := fun k => match k with
  | 0 => .int
  | 1 => .object "PlateRegister$Timeline"
  | 2 => .int
  | _ => .int
abbrev wsX10 : List Cond := u_ws RX1 TX1 4
theorem nmX1 : ∀ a, a < 4 → ∀ b, b < 4 → a ≠ b → (TX1 a).2.1 ≠ (TX1 b).2.1 := by decide +kernel
theorem tyX1_ok : ∀ k, k < 4 → parseFieldDescriptor (TX1 k).2.2.1 = some (tyX1 k) := by decide +kernel
abbrev cX1_init : ByteArray := prog_3_method_1_code
def yX1_init : MethodName := ⟨RX1, "<init>", "(I)V"⟩
abbrev cX1_keepFor : ByteArray := prog_3_method_2_code
def yX1_keepFor : MethodName := ⟨RX1, "keepFor", "(II)V"⟩
abbrev cX1_makeVoid : ByteArray := prog_3_method_3_code
def yX1_makeVoid : MethodName := ⟨RX1, "makeVoid", "(I)V"⟩
abbrev cX1_isKept : ByteArray := prog_3_method_4_code
def yX1_isKept : MethodName := ⟨RX1, "isKept", "(I)Z"⟩
abbrev cX1_voidDay : ByteArray := prog_3_method_5_code
def yX1_voidDay : MethodName := ⟨RX1, "voidDay", "()I"⟩
def RX2 : String := "PlateRegister$Timeline"
def TX2 : u_T := fun k => match k with
  | 0 => ("PlateRegister$Timeline", "days", "[I", false)
  | 1 => ("PlateRegister$Timeline", "values", "[I", false)
  | _ => ("PlateRegister$Timeline", "size", "I", false)
def tyX2 : Nat → FieldType := fun k => match k with
  | 0 => .array .int
  | 1 => .array .int
  | _ => .int
abbrev wsX20 : List Cond := u_ws RX2 TX2 3
theorem nmX2 : ∀ a, a < 3 → ∀ b, b < 3 → a ≠ b → (TX2 a).2.1 ≠ (TX2 b).2.1 := by decide +kernel
theorem tyX2_ok : ∀ k, k < 3 → parseFieldDescriptor (TX2 k).2.2.1 = some (tyX2 k) := by decide +kernel
abbrev cX2_init : ByteArray := prog_4_method_1_code
def yX2_init : MethodName := ⟨RX2, "<init>", "()V"⟩
abbrev cX2_append : ByteArray := prog_4_method_2_code
def yX2_append : MethodName := ⟨RX2, "append", "(II)V"⟩
abbrev cX2_set : ByteArray := prog_4_method_3_code
def yX2_set : MethodName := ⟨RX2, "set", "(II)V"⟩
abbrev cX2_widen : ByteArray := prog_4_method_4_code
def yX2_widen : MethodName := ⟨RX2, "widen", "()V"⟩
abbrev cX2_dayAt : ByteArray := prog_4_method_5_code
def yX2_dayAt : MethodName := ⟨RX2, "dayAt", "(I)I"⟩
abbrev cX2_valueAt : ByteArray := prog_4_method_6_code
def yX2_valueAt : MethodName := ⟨RX2, "valueAt", "(I)I"⟩
abbrev cX2_lastDay : ByteArray := prog_4_method_7_code
def yX2_lastDay : MethodName := ⟨RX2, "lastDay", "()I"⟩
abbrev cX2_lastValue : ByteArray := prog_4_method_8_code
def yX2_lastValue : MethodName := ⟨RX2, "lastValue", "()I"⟩
abbrev cX2_at : ByteArray := prog_4_method_9_code
def yX2_at : MethodName := ⟨RX2, "at", "(I)I"⟩
abbrev cX2_atByGoing : ByteArray := prog_4_method_10_code
def yX2_atByGoing : MethodName := ⟨RX2, "atByGoing", "(I)I"⟩
abbrev cX2_advance : ByteArray := prog_4_method_11_code
def yX2_advance : MethodName := ⟨RX2, "advance", "(II)I"⟩
abbrev cX2_indexByHalving : ByteArray := prog_4_method_12_code
def yX2_indexByHalving : MethodName := ⟨RX2, "indexByHalving", "(I)I"⟩
abbrev cX2_firstDayWith : ByteArray := prog_4_method_13_code
def yX2_firstDayWith : MethodName := ⟨RX2, "firstDayWith", "(III)I"⟩
def RX3 : String := "PlateRegister$Vehicle"
def TX3 : u_T := fun k => match k with
  | 0 => ("PlateRegister$Vehicle", "number", "I", true)
  | 1 => ("PlateRegister$Vehicle", "kind", "C", true)
  | 2 => ("PlateRegister$Vehicle", "keepers", "LPlateRegister$Timeline;", true)
  | 3 => ("PlateRegister$Vehicle", "plates", "LPlateRegister$Timeline;", true)
  | 4 => ("PlateRegister$Vehicle", "road", "LPlateRegister$Timeline;", true)
  | 5 => ("PlateRegister$Vehicle", "liens", "[I", true)
  | 6 => ("PlateRegister$Vehicle", "isAdmitted", "Z", false)
  | _ => ("PlateRegister$Vehicle", "isScrapped", "Z", false)
def tyX3 : Nat → FieldType := fun k => match k with
  | 0 => .int
  | 1 => .char
  | 2 => .object "PlateRegister$Timeline"
  | 3 => .object "PlateRegister$Timeline"
  | 4 => .object "PlateRegister$Timeline"
  | 5 => .array .int
  | 6 => .boolean
  | _ => .boolean
abbrev wsX30 : List Cond := u_ws RX3 TX3 8
theorem nmX3 : ∀ a, a < 8 → ∀ b, b < 8 → a ≠ b → (TX3 a).2.1 ≠ (TX3 b).2.1 := by decide +kernel
theorem tyX3_ok : ∀ k, k < 8 → parseFieldDescriptor (TX3 k).2.2.1 = some (tyX3 k) := by decide +kernel
abbrev cX3_init : ByteArray := prog_5_method_1_code
def yX3_init : MethodName := ⟨RX3, "<init>", "(IC)V"⟩
abbrev cX3_isOnRoadNow : ByteArray := prog_5_method_2_code
def yX3_isOnRoadNow : MethodName := ⟨RX3, "isOnRoadNow", "()Z"⟩
abbrev cX3_hasPlate : ByteArray := prog_5_method_3_code
def yX3_hasPlate : MethodName := ⟨RX3, "hasPlate", "()Z"⟩
abbrev cX3_lienLeft : ByteArray := prog_5_method_4_code
def yX3_lienLeft : MethodName := ⟨RX3, "lienLeft", "(C)I"⟩
abbrev cX3_isBlockedNow : ByteArray := prog_5_method_5_code
def yX3_isBlockedNow : MethodName := ⟨RX3, "isBlockedNow", "()Z"⟩
def RX4 : String := "PlateRegister"
def TX4 : u_T := fun k => match k with
  | 0 => ("PlateRegister", "fleet", "[LPlateRegister$Vehicle;", true)
  | 1 => ("PlateRegister", "issued", "[LPlateRegister$Plate;", true)
  | 2 => ("PlateRegister", "post", "[LPlateRegister$Notice;", true)
  | 3 => ("PlateRegister", "paid", "[I", true)
  | 4 => ("PlateRegister", "owedByQuarters", "[I", true)
  | 5 => ("PlateRegister", "owedByDays", "[I", true)
  | 6 => ("PlateRegister", "keeperCount", "I", false)
  | 7 => ("PlateRegister", "vehicleCount", "I", false)
  | 8 => ("PlateRegister", "plateCount", "I", false)
  | 9 => ("PlateRegister", "noticeCount", "I", false)
  | 10 => ("PlateRegister", "today", "I", false)
  | _ => ("PlateRegister", "paidInAll", "J", false)
def tyX4 : Nat → FieldType := fun k => match k with
  | 0 => .array (.object "PlateRegister$Vehicle")
  | 1 => .array (.object "PlateRegister$Plate")
  | 2 => .array (.object "PlateRegister$Notice")
  | 3 => .array .int
  | 4 => .array .int
  | 5 => .array .int
  | 6 => .int
  | 7 => .int
  | 8 => .int
  | 9 => .int
  | 10 => .int
  | _ => .long
abbrev wsX40 : List Cond := u_ws RX4 TX4 12
theorem nmX4 : ∀ a, a < 12 → ∀ b, b < 12 → a ≠ b → (TX4 a).2.1 ≠ (TX4 b).2.1 := by decide +kernel
theorem tyX4_ok : ∀ k, k < 12 → parseFieldDescriptor (TX4 k).2.2.1 = some (tyX4 k) := by decide +kernel
abbrev cX4_init : ByteArray := prog_1_method_1_code
def yX4_init : MethodName := ⟨RX4, "<init>", "()V"⟩
abbrev cX4_addKeeper : ByteArray := prog_1_method_2_code
def yX4_addKeeper : MethodName := ⟨RX4, "addKeeper", "()I"⟩
abbrev cX4_pass : ByteArray := prog_1_method_3_code
def yX4_pass : MethodName := ⟨RX4, "pass", "(I)I"⟩
abbrev cX4_day : ByteArray := prog_1_method_4_code
def yX4_day : MethodName := ⟨RX4, "day", "()I"⟩
abbrev cX4_register : ByteArray := prog_1_method_5_code
def yX4_register : MethodName := ⟨RX4, "register", "(IC)I"⟩
abbrev cX4_bringIn : ByteArray := prog_1_method_6_code
def yX4_bringIn : MethodName := ⟨RX4, "bringIn", "(IC)I"⟩
abbrev cX4_admit : ByteArray := prog_1_method_7_code
def yX4_admit : MethodName := ⟨RX4, "admit", "(I)I"⟩
abbrev cX4_setOnRoad : ByteArray := prog_1_method_8_code
def yX4_setOnRoad : MethodName := ⟨RX4, "setOnRoad", "(IZ)Z"⟩
abbrev cX4_isOnRoad : ByteArray := prog_1_method_9_code
def yX4_isOnRoad : MethodName := ⟨RX4, "isOnRoad", "(II)Z"⟩
abbrev cX4_scrap : ByteArray := prog_1_method_10_code
def yX4_scrap : MethodName := ⟨RX4, "scrap", "(I)I"⟩
abbrev cX4_kindOf : ByteArray := prog_1_method_11_code
def yX4_kindOf : MethodName := ⟨RX4, "kindOf", "(I)C"⟩
abbrev cX4_vehicles : ByteArray := prog_1_method_12_code
def yX4_vehicles : MethodName := ⟨RX4, "vehicles", "()I"⟩
abbrev cX4_sell : ByteArray := prog_1_method_13_code
def yX4_sell : MethodName := ⟨RX4, "sell", "(IIII)I"⟩
abbrev cX4_buy : ByteArray := prog_1_method_14_code
def yX4_buy : MethodName := ⟨RX4, "buy", "(III)I"⟩
abbrev cX4_withdraw : ByteArray := prog_1_method_15_code
def yX4_withdraw : MethodName := ⟨RX4, "withdraw", "(I)I"⟩
abbrev cX4_stateOf : ByteArray := prog_1_method_16_code
def yX4_stateOf : MethodName := ⟨RX4, "stateOf", "(I)C"⟩
abbrev cX4_partnerOf : ByteArray := prog_1_method_17_code
def yX4_partnerOf : MethodName := ⟨RX4, "partnerOf", "(I)I"⟩
abbrev cX4_openNotices : ByteArray := prog_1_method_18_code
def yX4_openNotices : MethodName := ⟨RX4, "openNotices", "(I)I"⟩
abbrev cX4_keeperOn : ByteArray := prog_1_method_19_code
def yX4_keeperOn : MethodName := ⟨RX4, "keeperOn", "(II)I"⟩
abbrev cX4_keeperByGoing : ByteArray := prog_1_method_20_code
def yX4_keeperByGoing : MethodName := ⟨RX4, "keeperByGoing", "(II)I"⟩
abbrev cX4_transfers : ByteArray := prog_1_method_21_code
def yX4_transfers : MethodName := ⟨RX4, "transfers", "(I)I"⟩
abbrev cX4_transferDay : ByteArray := prog_1_method_22_code
def yX4_transferDay : MethodName := ⟨RX4, "transferDay", "(II)I"⟩
abbrev cX4_keptBy : ByteArray := prog_1_method_23_code
def yX4_keptBy : MethodName := ⟨RX4, "keptBy", "(I)I"⟩
abbrev cX4_addLien : ByteArray := prog_1_method_24_code
def yX4_addLien : MethodName := ⟨RX4, "addLien", "(ICI)I"⟩
abbrev cX4_payLien : ByteArray := prog_1_method_25_code
def yX4_payLien : MethodName := ⟨RX4, "payLien", "(ICI)I"⟩
abbrev cX4_lienOf : ByteArray := prog_1_method_26_code
def yX4_lienOf : MethodName := ⟨RX4, "lienOf", "(IC)I"⟩
abbrev cX4_isBlocked : ByteArray := prog_1_method_27_code
def yX4_isBlocked : MethodName := ⟨RX4, "isBlocked", "(I)Z"⟩
abbrev cX4_keepPlate : ByteArray := prog_1_method_28_code
def yX4_keepPlate : MethodName := ⟨RX4, "keepPlate", "(I)I"⟩
abbrev cX4_putOn : ByteArray := prog_1_method_29_code
def yX4_putOn : MethodName := ⟨RX4, "putOn", "(II)I"⟩
abbrev cX4_swapPlates : ByteArray := prog_1_method_30_code
def yX4_swapPlates : MethodName := ⟨RX4, "swapPlates", "(II)I"⟩
abbrev cX4_plateState : ByteArray := prog_1_method_31_code
def yX4_plateState : MethodName := ⟨RX4, "plateState", "(I)C"⟩
abbrev cX4_daysKept : ByteArray := prog_1_method_32_code
def yX4_daysKept : MethodName := ⟨RX4, "daysKept", "(I)I"⟩
abbrev cX4_plates : ByteArray := prog_1_method_33_code
def yX4_plates : MethodName := ⟨RX4, "plates", "()I"⟩
abbrev cX4_plateOn : ByteArray := prog_1_method_34_code
def yX4_plateOn : MethodName := ⟨RX4, "plateOn", "(II)I"⟩
abbrev cX4_vehicleWith : ByteArray := prog_1_method_35_code
def yX4_vehicleWith : MethodName := ⟨RX4, "vehicleWith", "(II)I"⟩
abbrev cX4_vehicleByVehicles : ByteArray := prog_1_method_36_code
def yX4_vehicleByVehicles : MethodName := ⟨RX4, "vehicleByVehicles", "(II)I"⟩
abbrev cX4_due : ByteArray := prog_1_method_37_code
def yX4_due : MethodName := ⟨RX4, "due", "(II)I"⟩
abbrev cX4_owes : ByteArray := prog_1_method_38_code
def yX4_owes : MethodName := ⟨RX4, "owes", "(I)I"⟩
abbrev cX4_owesByDays : ByteArray := prog_1_method_39_code
def yX4_owesByDays : MethodName := ⟨RX4, "owesByDays", "(I)I"⟩
abbrev cX4_pay : ByteArray := prog_1_method_40_code
def yX4_pay : MethodName := ⟨RX4, "pay", "(II)I"⟩
abbrev cX4_mostOwing : ByteArray := prog_1_method_41_code
def yX4_mostOwing : MethodName := ⟨RX4, "mostOwing", "()I"⟩
abbrev cX4_collected : ByteArray := prog_1_method_42_code
def yX4_collected : MethodName := ⟨RX4, "collected", "()J"⟩
abbrev cX4_roadShare : ByteArray := prog_1_method_43_code
def yX4_roadShare : MethodName := ⟨RX4, "roadShare", "()F"⟩
abbrev cX4_meanTransfers : ByteArray := prog_1_method_44_code
def yX4_meanTransfers : MethodName := ⟨RX4, "meanTransfers", "()D"⟩
abbrev cX4_isSound : ByteArray := prog_1_method_45_code
def yX4_isSound : MethodName := ⟨RX4, "isSound", "()Z"⟩
abbrev cX4_requireKeeper : ByteArray := prog_1_method_46_code
def yX4_requireKeeper : MethodName := ⟨RX4, "requireKeeper", "(I)V"⟩
abbrev cX4_vehicleAt : ByteArray := prog_1_method_47_code
def yX4_vehicleAt : MethodName := ⟨RX4, "vehicleAt", "(I)LPlateRegister$Vehicle;"⟩
abbrev cX4_plateAt : ByteArray := prog_1_method_48_code
def yX4_plateAt : MethodName := ⟨RX4, "plateAt", "(I)LPlateRegister$Plate;"⟩
abbrev cX4_noticeAt : ByteArray := prog_1_method_49_code
def yX4_noticeAt : MethodName := ⟨RX4, "noticeAt", "(I)LPlateRegister$Notice;"⟩
abbrev cX4_requireDay : ByteArray := prog_1_method_50_code
def yX4_requireDay : MethodName := ⟨RX4, "requireDay", "(I)V"⟩
abbrev cX4_requireKind : ByteArray := prog_1_method_51_code
def yX4_requireKind : MethodName := ⟨RX4, "requireKind", "(C)V"⟩
abbrev cX4_requireRoomForVehicle : ByteArray := prog_1_method_52_code
def yX4_requireRoomForVehicle : MethodName := ⟨RX4, "requireRoomForVehicle", "()V"⟩
abbrev cX4_requireRoomForPlate : ByteArray := prog_1_method_53_code
def yX4_requireRoomForPlate : MethodName := ⟨RX4, "requireRoomForPlate", "()V"⟩
abbrev cX4_requireRoomForNotice : ByteArray := prog_1_method_54_code
def yX4_requireRoomForNotice : MethodName := ⟨RX4, "requireRoomForNotice", "()V"⟩
abbrev cX4_requireUnblocked : ByteArray := prog_1_method_55_code
def yX4_requireUnblocked : MethodName := ⟨RX4, "requireUnblocked", "(LPlateRegister$Vehicle;)V"⟩
abbrev cX4_requirePlateToChange : ByteArray := prog_1_method_56_code
def yX4_requirePlateToChange : MethodName := ⟨RX4, "requirePlateToChange", "(LPlateRegister$Vehicle;)LPlateRegister$Plate;"⟩
abbrev cX4_requireLien : ByteArray := prog_1_method_57_code
def yX4_requireLien : MethodName := ⟨RX4, "requireLien", "(LPlateRegister$Vehicle;C)I"⟩
abbrev cX4_requireVehicles : ByteArray := prog_1_method_58_code
def yX4_requireVehicles : MethodName := ⟨RX4, "requireVehicles", "()V"⟩
abbrev cX4_found : ByteArray := prog_1_method_59_code
def yX4_found : MethodName := ⟨RX4, "found", "(I)I"⟩
abbrev cX4_placeFound : ByteArray := prog_1_method_60_code
def yX4_placeFound : MethodName := ⟨RX4, "placeFound", "(I)I"⟩
abbrev cX4_enterVehicle : ByteArray := prog_1_method_61_code
def yX4_enterVehicle : MethodName := ⟨RX4, "enterVehicle", "(IC)LPlateRegister$Vehicle;"⟩
abbrev cX4_bringOnRoad : ByteArray := prog_1_method_62_code
def yX4_bringOnRoad : MethodName := ⟨RX4, "bringOnRoad", "(LPlateRegister$Vehicle;)V"⟩
abbrev cX4_issuePlate : ByteArray := prog_1_method_63_code
def yX4_issuePlate : MethodName := ⟨RX4, "issuePlate", "()LPlateRegister$Plate;"⟩
abbrev cX4_mount : ByteArray := prog_1_method_64_code
def yX4_mount : MethodName := ⟨RX4, "mount", "(LPlateRegister$Plate;LPlateRegister$Vehicle;)V"⟩
abbrev cX4_plateOrNull : ByteArray := prog_1_method_65_code
def yX4_plateOrNull : MethodName := ⟨RX4, "plateOrNull", "(I)LPlateRegister$Plate;"⟩
abbrev cX4_plateOf : ByteArray := prog_1_method_66_code
def yX4_plateOf : MethodName := ⟨RX4, "plateOf", "(LPlateRegister$Vehicle;)LPlateRegister$Plate;"⟩
abbrev cX4_unscrapped : ByteArray := prog_1_method_67_code
def yX4_unscrapped : MethodName := ⟨RX4, "unscrapped", "()I"⟩
abbrev cX4_placeByVehicles : ByteArray := prog_1_method_68_code
def yX4_placeByVehicles : MethodName := ⟨RX4, "placeByVehicles", "(II)I"⟩
abbrev cX4_countVehiclesWith : ByteArray := prog_1_method_69_code
def yX4_countVehiclesWith : MethodName := ⟨RX4, "countVehiclesWith", "(I)I"⟩
abbrev cX4_arePlatesSound : ByteArray := prog_1_method_70_code
def yX4_arePlatesSound : MethodName := ⟨RX4, "arePlatesSound", "()Z"⟩
abbrev cX4_enterNotice : ByteArray := prog_1_method_71_code
def yX4_enterNotice : MethodName := ⟨RX4, "enterNotice", "(ILPlateRegister$Vehicle;II)I"⟩
abbrev cX4_settle : ByteArray := prog_1_method_72_code
def yX4_settle : MethodName := ⟨RX4, "settle", "(LPlateRegister$Vehicle;)V"⟩
abbrev cX4_useFirstPair : ByteArray := prog_1_method_73_code
def yX4_useFirstPair : MethodName := ⟨RX4, "useFirstPair", "(LPlateRegister$Vehicle;)Z"⟩
abbrev cX4_maySell : ByteArray := prog_1_method_74_code
def yX4_maySell : MethodName := ⟨RX4, "maySell", "(LPlateRegister$Vehicle;LPlateRegister$Notice;)Z"⟩
abbrev cX4_buyerFor : ByteArray := prog_1_method_75_code
def yX4_buyerFor : MethodName := ⟨RX4, "buyerFor", "(LPlateRegister$Notice;)LPlateRegister$Notice;"⟩
abbrev cX4_use : ByteArray := prog_1_method_76_code
def yX4_use : MethodName := ⟨RX4, "use", "(LPlateRegister$Notice;LPlateRegister$Notice;LPlateRegister$Vehicle;)V"⟩
abbrev cX4_countOpen : ByteArray := prog_1_method_77_code
def yX4_countOpen : MethodName := ⟨RX4, "countOpen", "()I"⟩
abbrev cX4_taxFor : ByteArray := prog_1_method_78_code
def yX4_taxFor : MethodName := ⟨RX4, "taxFor", "(C)I"⟩
abbrev cX4_firstRoadDay : ByteArray := prog_1_method_79_code
def yX4_firstRoadDay : MethodName := ⟨RX4, "firstRoadDay", "(LPlateRegister$Vehicle;I)I"⟩
abbrev cX4_sumByQuarters : ByteArray := prog_1_method_80_code
def yX4_sumByQuarters : MethodName := ⟨RX4, "sumByQuarters", "()V"⟩
abbrev cX4_sumByDays : ByteArray := prog_1_method_81_code
def yX4_sumByDays : MethodName := ⟨RX4, "sumByDays", "()V"⟩
abbrev cX4_addDays : ByteArray := prog_1_method_82_code
def yX4_addDays : MethodName := ⟨RX4, "addDays", "(LPlateRegister$Vehicle;)V"⟩
abbrev cX4_beginWithPaid : ByteArray := prog_1_method_83_code
def yX4_beginWithPaid : MethodName := ⟨RX4, "beginWithPaid", "([I)V"⟩
abbrev cX4_areTaxesSound : ByteArray := prog_1_method_84_code
def yX4_areTaxesSound : MethodName := ⟨RX4, "areTaxesSound", "()Z"⟩
abbrev cX4_isLender : ByteArray := prog_1_method_85_code
def yX4_isLender : MethodName := ⟨RX4, "isLender", "(C)Z"⟩
abbrev cX4_entry : ByteArray := prog_1_method_86_code
def yX4_entry : MethodName := ⟨RX4, "entry", "([II)I"⟩
abbrev cX4_addTo : ByteArray := prog_1_method_87_code
def yX4_addTo : MethodName := ⟨RX4, "addTo", "([III)V"⟩
def RX5 : String := "PlateRegisterModel"
def TX5 : u_T := fun k => match k with
  | 0 => ("PlateRegisterModel", "thrown", "I", false)
  | 1 => ("PlateRegisterModel", "keepers", "I", false)
  | 2 => ("PlateRegisterModel", "vehicles", "I", false)
  | 3 => ("PlateRegisterModel", "notices", "I", false)
  | 4 => ("PlateRegisterModel", "plates", "I", false)
  | 5 => ("PlateRegisterModel", "today", "I", false)
  | 6 => ("PlateRegisterModel", "passes", "I", false)
  | 7 => ("PlateRegisterModel", "roads", "I", false)
  | 8 => ("PlateRegisterModel", "signs", "I", false)
  | 9 => ("PlateRegisterModel", "collected", "J", false)
  | 10 => ("PlateRegisterModel", "paid", "[I", true)
  | 11 => ("PlateRegisterModel", "kind", "[I", true)
  | 12 => ("PlateRegisterModel", "lien", "[I", true)
  | 13 => ("PlateRegisterModel", "isScrapped", "[Z", true)
  | 14 => ("PlateRegisterModel", "isAdmitted", "[Z", true)
  | 15 => ("PlateRegisterModel", "passVehicle", "[I", true)
  | 16 => ("PlateRegisterModel", "passDay", "[I", true)
  | 17 => ("PlateRegisterModel", "passKeeper", "[I", true)
  | 18 => ("PlateRegisterModel", "seller", "[I", true)
  | 19 => ("PlateRegisterModel", "buyer", "[I", true)
  | 20 => ("PlateRegisterModel", "noticeVehicle", "[I", true)
  | 21 => ("PlateRegisterModel", "noticeDay", "[I", true)
  | 22 => ("PlateRegisterModel", "state", "[I", true)
  | 23 => ("PlateRegisterModel", "partner", "[I", true)
  | 24 => ("PlateRegisterModel", "roadVehicle", "[I", true)
  | 25 => ("PlateRegisterModel", "roadDay", "[I", true)
  | 26 => ("PlateRegisterModel", "roadOn", "[Z", true)
  | 27 => ("PlateRegisterModel", "signVehicle", "[I", true)
  | 28 => ("PlateRegisterModel", "signDay", "[I", true)
  | 29 => ("PlateRegisterModel", "signPlate", "[I", true)
  | 30 => ("PlateRegisterModel", "keeperOfPlate", "[I", true)
  | 31 => ("PlateRegisterModel", "takenOff", "[I", true)
  | _ => ("PlateRegisterModel", "isKept", "[Z", true)
def tyX5 : Nat → FieldType := fun k => match k with
  | 0 => .int
  | 1 => .int
  | 2 => .int
  | 3 => .int
  | 4 => .int
  | 5 => .int
  | 6 => .int
  | 7 => .int
  | 8 => .int
  | 9 => .long
  | 10 => .array .int
  | 11 => .array .int
  | 12 => .array .int
  | 13 => .array .boolean
  | 14 => .array .boolean
  | 15 => .array .int
  | 16 => .array .int
  | 17 => .array .int
  | 18 => .array .int
  | 19 => .array .int
  | 20 => .array .int
  | 21 => .array .int
  | 22 => .array .int
  | 23 => .array .int
  | 24 => .array .int
  | 25 => .array .int
  | 26 => .array .boolean
  | 27 => .array .int
  | 28 => .array .int
  | 29 => .array .int
  | 30 => .array .int
  | 31 => .array .int
  | _ => .array .boolean
abbrev wsX50 : List Cond := u_ws RX5 TX5 33
theorem nmX5 : ∀ a, a < 33 → ∀ b, b < 33 → a ≠ b → (TX5 a).2.1 ≠ (TX5 b).2.1 := by decide +kernel
theorem tyX5_ok : ∀ k, k < 33 → parseFieldDescriptor (TX5 k).2.2.1 = some (tyX5 k) := by decide +kernel
abbrev cX5_init : ByteArray := prog_7_method_1_code
def yX5_init : MethodName := ⟨RX5, "<init>", "()V"⟩
abbrev cX5_thrown : ByteArray := prog_7_method_2_code
def yX5_thrown : MethodName := ⟨RX5, "thrown", "()I"⟩
abbrev cX5_fails : ByteArray := prog_7_method_3_code
def yX5_fails : MethodName := ⟨RX5, "fails", "(I)I"⟩
abbrev cX5_in : ByteArray := prog_7_method_4_code
def yX5_in : MethodName := ⟨RX5, "in", "(III)Z"⟩
abbrev cX5_isKeeper : ByteArray := prog_7_method_5_code
def yX5_isKeeper : MethodName := ⟨RX5, "isKeeper", "(I)Z"⟩
abbrev cX5_isVehicle : ByteArray := prog_7_method_6_code
def yX5_isVehicle : MethodName := ⟨RX5, "isVehicle", "(I)Z"⟩
abbrev cX5_isPlate : ByteArray := prog_7_method_7_code
def yX5_isPlate : MethodName := ⟨RX5, "isPlate", "(I)Z"⟩
abbrev cX5_isDay : ByteArray := prog_7_method_8_code
def yX5_isDay : MethodName := ⟨RX5, "isDay", "(I)Z"⟩
abbrev cX5_isKind : ByteArray := prog_7_method_9_code
def yX5_isKind : MethodName := ⟨RX5, "isKind", "(C)Z"⟩
abbrev cX5_tax : ByteArray := prog_7_method_10_code
def yX5_tax : MethodName := ⟨RX5, "tax", "(I)I"⟩
abbrev cX5_setsRoad : ByteArray := prog_7_method_11_code
def yX5_setsRoad : MethodName := ⟨RX5, "setsRoad", "(IZ)V"⟩
abbrev cX5_road : ByteArray := prog_7_method_12_code
def yX5_road : MethodName := ⟨RX5, "road", "(II)Z"⟩
abbrev cX5_setsPlate : ByteArray := prog_7_method_13_code
def yX5_setsPlate : MethodName := ⟨RX5, "setsPlate", "(II)V"⟩
abbrev cX5_plate : ByteArray := prog_7_method_14_code
def yX5_plate : MethodName := ⟨RX5, "plate", "(II)I"⟩
abbrev cX5_vehicle : ByteArray := prog_7_method_15_code
def yX5_vehicle : MethodName := ⟨RX5, "vehicle", "(II)I"⟩
abbrev cX5_keeper : ByteArray := prog_7_method_16_code
def yX5_keeper : MethodName := ⟨RX5, "keeper", "(II)I"⟩
abbrev cX5_present : ByteArray := prog_7_method_17_code
def yX5_present : MethodName := ⟨RX5, "present", "(I)I"⟩
abbrev cX5_lastPass : ByteArray := prog_7_method_18_code
def yX5_lastPass : MethodName := ⟨RX5, "lastPass", "(I)I"⟩
abbrev cX5_passesOn : ByteArray := prog_7_method_19_code
def yX5_passesOn : MethodName := ⟨RX5, "passesOn", "(III)V"⟩
abbrev cX5_blocked : ByteArray := prog_7_method_20_code
def yX5_blocked : MethodName := ⟨RX5, "blocked", "(I)Z"⟩
abbrev cX5_addKeeper : ByteArray := prog_7_method_21_code
def yX5_addKeeper : MethodName := ⟨RX5, "addKeeper", "()I"⟩
abbrev cX5_pass : ByteArray := prog_7_method_22_code
def yX5_pass : MethodName := ⟨RX5, "pass", "(I)I"⟩
abbrev cX5_day : ByteArray := prog_7_method_23_code
def yX5_day : MethodName := ⟨RX5, "day", "()I"⟩
abbrev cX5_issues : ByteArray := prog_7_method_24_code
def yX5_issues : MethodName := ⟨RX5, "issues", "(I)I"⟩
abbrev cX5_adds : ByteArray := prog_7_method_25_code
def yX5_adds : MethodName := ⟨RX5, "adds", "(ICZ)I"⟩
abbrev cX5_register : ByteArray := prog_7_method_26_code
def yX5_register : MethodName := ⟨RX5, "register", "(IC)I"⟩
abbrev cX5_bringIn : ByteArray := prog_7_method_27_code
def yX5_bringIn : MethodName := ⟨RX5, "bringIn", "(IC)I"⟩
abbrev cX5_admit : ByteArray := prog_7_method_28_code
def yX5_admit : MethodName := ⟨RX5, "admit", "(I)I"⟩
abbrev cX5_setOnRoad : ByteArray := prog_7_method_29_code
def yX5_setOnRoad : MethodName := ⟨RX5, "setOnRoad", "(IZ)Z"⟩
abbrev cX5_isOnRoad : ByteArray := prog_7_method_30_code
def yX5_isOnRoad : MethodName := ⟨RX5, "isOnRoad", "(II)Z"⟩
abbrev cX5_scrap : ByteArray := prog_7_method_31_code
def yX5_scrap : MethodName := ⟨RX5, "scrap", "(I)I"⟩
abbrev cX5_kindOf : ByteArray := prog_7_method_32_code
def yX5_kindOf : MethodName := ⟨RX5, "kindOf", "(I)C"⟩
abbrev cX5_vehicles : ByteArray := prog_7_method_33_code
def yX5_vehicles : MethodName := ⟨RX5, "vehicles", "()I"⟩
abbrev cX5_fit : ByteArray := prog_7_method_34_code
def yX5_fit : MethodName := ⟨RX5, "fit", "(II)Z"⟩
abbrev cX5_usesPair : ByteArray := prog_7_method_35_code
def yX5_usesPair : MethodName := ⟨RX5, "usesPair", "(I)Z"⟩
abbrev cX5_crosses : ByteArray := prog_7_method_36_code
def yX5_crosses : MethodName := ⟨RX5, "crosses", "(I)V"⟩
abbrev cX5_enters : ByteArray := prog_7_method_37_code
def yX5_enters : MethodName := ⟨RX5, "enters", "(IIII)I"⟩
abbrev cX5_sell : ByteArray := prog_7_method_38_code
def yX5_sell : MethodName := ⟨RX5, "sell", "(IIII)I"⟩
abbrev cX5_buy : ByteArray := prog_7_method_39_code
def yX5_buy : MethodName := ⟨RX5, "buy", "(III)I"⟩
abbrev cX5_open : ByteArray := prog_7_method_40_code
def yX5_open : MethodName := ⟨RX5, "open", "(I)I"⟩
abbrev cX5_isNotice : ByteArray := prog_7_method_41_code
def yX5_isNotice : MethodName := ⟨RX5, "isNotice", "(I)Z"⟩
abbrev cX5_withdraw : ByteArray := prog_7_method_42_code
def yX5_withdraw : MethodName := ⟨RX5, "withdraw", "(I)I"⟩
abbrev cX5_stateOf : ByteArray := prog_7_method_43_code
def yX5_stateOf : MethodName := ⟨RX5, "stateOf", "(I)C"⟩
abbrev cX5_partnerOf : ByteArray := prog_7_method_44_code
def yX5_partnerOf : MethodName := ⟨RX5, "partnerOf", "(I)I"⟩
abbrev cX5_isAsked : ByteArray := prog_7_method_45_code
def yX5_isAsked : MethodName := ⟨RX5, "isAsked", "(I)Z"⟩
abbrev cX5_openNotices : ByteArray := prog_7_method_46_code
def yX5_openNotices : MethodName := ⟨RX5, "openNotices", "(I)I"⟩
abbrev cX5_keeperOn : ByteArray := prog_7_method_47_code
def yX5_keeperOn : MethodName := ⟨RX5, "keeperOn", "(II)I"⟩
abbrev cX5_keeperByGoing : ByteArray := prog_7_method_48_code
def yX5_keeperByGoing : MethodName := ⟨RX5, "keeperByGoing", "(II)I"⟩
abbrev cX5_passesOf : ByteArray := prog_7_method_49_code
def yX5_passesOf : MethodName := ⟨RX5, "passesOf", "(I)I"⟩
abbrev cX5_transfers : ByteArray := prog_7_method_50_code
def yX5_transfers : MethodName := ⟨RX5, "transfers", "(I)I"⟩
abbrev cX5_transferDay : ByteArray := prog_7_method_51_code
def yX5_transferDay : MethodName := ⟨RX5, "transferDay", "(II)I"⟩
abbrev cX5_keptBy : ByteArray := prog_7_method_52_code
def yX5_keptBy : MethodName := ⟨RX5, "keptBy", "(I)I"⟩
abbrev cX5_addLien : ByteArray := prog_7_method_53_code
def yX5_addLien : MethodName := ⟨RX5, "addLien", "(ICI)I"⟩
abbrev cX5_place : ByteArray := prog_7_method_54_code
def yX5_place : MethodName := ⟨RX5, "place", "(IC)I"⟩
abbrev cX5_payLien : ByteArray := prog_7_method_55_code
def yX5_payLien : MethodName := ⟨RX5, "payLien", "(ICI)I"⟩
abbrev cX5_lienOf : ByteArray := prog_7_method_56_code
def yX5_lienOf : MethodName := ⟨RX5, "lienOf", "(IC)I"⟩
abbrev cX5_isBlocked : ByteArray := prog_7_method_57_code
def yX5_isBlocked : MethodName := ⟨RX5, "isBlocked", "(I)Z"⟩
abbrev cX5_kept : ByteArray := prog_7_method_58_code
def yX5_kept : MethodName := ⟨RX5, "kept", "(I)Z"⟩
abbrev cX5_keepPlate : ByteArray := prog_7_method_59_code
def yX5_keepPlate : MethodName := ⟨RX5, "keepPlate", "(I)I"⟩
abbrev cX5_putOn : ByteArray := prog_7_method_60_code
def yX5_putOn : MethodName := ⟨RX5, "putOn", "(II)I"⟩
abbrev cX5_swapPlates : ByteArray := prog_7_method_61_code
def yX5_swapPlates : MethodName := ⟨RX5, "swapPlates", "(II)I"⟩
abbrev cX5_isIssued : ByteArray := prog_7_method_62_code
def yX5_isIssued : MethodName := ⟨RX5, "isIssued", "(I)Z"⟩
abbrev cX5_plateState : ByteArray := prog_7_method_63_code
def yX5_plateState : MethodName := ⟨RX5, "plateState", "(I)C"⟩
abbrev cX5_daysKept : ByteArray := prog_7_method_64_code
def yX5_daysKept : MethodName := ⟨RX5, "daysKept", "(I)I"⟩
abbrev cX5_plates : ByteArray := prog_7_method_65_code
def yX5_plates : MethodName := ⟨RX5, "plates", "()I"⟩
abbrev cX5_plateOn : ByteArray := prog_7_method_66_code
def yX5_plateOn : MethodName := ⟨RX5, "plateOn", "(II)I"⟩
abbrev cX5_vehicleWith : ByteArray := prog_7_method_67_code
def yX5_vehicleWith : MethodName := ⟨RX5, "vehicleWith", "(II)I"⟩
abbrev cX5_vehicleByVehicles : ByteArray := prog_7_method_68_code
def yX5_vehicleByVehicles : MethodName := ⟨RX5, "vehicleByVehicles", "(II)I"⟩
abbrev cX5_first : ByteArray := prog_7_method_69_code
def yX5_first : MethodName := ⟨RX5, "first", "(II)I"⟩
abbrev cX5_due : ByteArray := prog_7_method_70_code
def yX5_due : MethodName := ⟨RX5, "due", "(II)I"⟩
abbrev cX5_debt : ByteArray := prog_7_method_71_code
def yX5_debt : MethodName := ⟨RX5, "debt", "(I)I"⟩
abbrev cX5_owes : ByteArray := prog_7_method_72_code
def yX5_owes : MethodName := ⟨RX5, "owes", "(I)I"⟩
abbrev cX5_owesByDays : ByteArray := prog_7_method_73_code
def yX5_owesByDays : MethodName := ⟨RX5, "owesByDays", "(I)I"⟩
abbrev cX5_pay : ByteArray := prog_7_method_74_code
def yX5_pay : MethodName := ⟨RX5, "pay", "(II)I"⟩
abbrev cX5_mostOwing : ByteArray := prog_7_method_75_code
def yX5_mostOwing : MethodName := ⟨RX5, "mostOwing", "()I"⟩
abbrev cX5_collected : ByteArray := prog_7_method_76_code
def yX5_collected : MethodName := ⟨RX5, "collected", "()J"⟩
abbrev cX5_roadShare : ByteArray := prog_7_method_77_code
def yX5_roadShare : MethodName := ⟨RX5, "roadShare", "()F"⟩
abbrev cX5_meanTransfers : ByteArray := prog_7_method_78_code
def yX5_meanTransfers : MethodName := ⟨RX5, "meanTransfers", "()D"⟩
abbrev cX5_isSound : ByteArray := prog_7_method_79_code
def yX5_isSound : MethodName := ⟨RX5, "isSound", "()Z"⟩
def RJx145de : String := "java/io/Serializable"
def TJx145de : u_T := fun k => match k with
  | _ => ("", "", "", false)
def tyJx145de : Nat → FieldType := fun k => match k with
  | _ => .int
abbrev wsJx145de0 : List Cond := u_ws RJx145de TJx145de 0
theorem nmJx145de : ∀ a, a < 0 → ∀ b, b < 0 → a ≠ b → (TJx145de a).2.1 ≠ (TJx145de b).2.1 := by decide +kernel
theorem tyJx145de_ok : ∀ k, k < 0 → parseFieldDescriptor (TJx145de k).2.2.1 = some (tyJx145de k) := by decide +kernel
def RJx00060 : String := "java/lang/ArrayIndexOutOfBoundsException"
def TJx00060 : u_T := fun k => match k with
  | 0 => ("java/lang/Throwable", "backtrace", "Ljava/lang/Object;", false)
  | 1 => ("java/lang/Throwable", "detailMessage", "Ljava/lang/String;", false)
  | 2 => ("java/lang/Throwable", "cause", "Ljava/lang/Throwable;", false)
  | 3 => ("java/lang/Throwable", "stackTrace", "[Ljava/lang/StackTraceElement;", false)
  | 4 => ("java/lang/Throwable", "depth", "I", false)
  | _ => ("java/lang/Throwable", "suppressedExceptions", "Ljava/util/List;", false)
def tyJx00060 : Nat → FieldType := fun k => match k with
  | 0 => .object "java/lang/Object"
  | 1 => .object "java/lang/String"
  | 2 => .object "java/lang/Throwable"
  | 3 => .array (.object "java/lang/StackTraceElement")
  | 4 => .int
  | _ => .object "java/util/List"
abbrev wsJx000600 : List Cond := u_ws RJx00060 TJx00060 6
theorem nmJx00060 : ∀ a, a < 6 → ∀ b, b < 6 → a ≠ b → (TJx00060 a).2.1 ≠ (TJx00060 b).2.1 := by decide +kernel
theorem tyJx00060_ok : ∀ k, k < 6 → parseFieldDescriptor (TJx00060 k).2.2.1 = some (tyJx00060 k) := by decide +kernel
abbrev cJx00060_init_a7421 : ByteArray := prog_10_method_2_code
def yJx00060_init_a7421 : MethodName := ⟨RJx00060, "<init>", "(Ljava/lang/String;)V"⟩
def RJx8e188 : String := "java/lang/Cloneable"
def TJx8e188 : u_T := fun k => match k with
  | _ => ("", "", "", false)
def tyJx8e188 : Nat → FieldType := fun k => match k with
  | _ => .int
abbrev wsJx8e1880 : List Cond := u_ws RJx8e188 TJx8e188 0
theorem nmJx8e188 : ∀ a, a < 0 → ∀ b, b < 0 → a ≠ b → (TJx8e188 a).2.1 ≠ (TJx8e188 b).2.1 := by decide +kernel
theorem tyJx8e188_ok : ∀ k, k < 0 → parseFieldDescriptor (TJx8e188 k).2.2.1 = some (tyJx8e188 k) := by decide +kernel
def RJ9 : String := "java/lang/Math"
def TJ9 : u_T := fun k => match k with
  | _ => ("", "", "", false)
def tyJ9 : Nat → FieldType := fun k => match k with
  | _ => .int
abbrev wsJ90 : List Cond := u_ws RJ9 TJ9 0
theorem nmJ9 : ∀ a, a < 0 → ∀ b, b < 0 → a ≠ b → (TJ9 a).2.1 ≠ (TJ9 b).2.1 := by decide +kernel
theorem tyJ9_ok : ∀ k, k < 0 → parseFieldDescriptor (TJ9 k).2.2.1 = some (tyJ9 k) := by decide +kernel
abbrev cJ9_abs_0f7a4 : ByteArray := prog_16_method_59_code
def yJ9_abs_0f7a4 : MethodName := ⟨RJ9, "abs", "(I)I"⟩
abbrev cJ9_max_7cf53 : ByteArray := prog_16_method_65_code
def yJ9_max_7cf53 : MethodName := ⟨RJ9, "max", "(II)I"⟩
abbrev cJ9_min_7cf53 : ByteArray := prog_16_method_69_code
def yJ9_min_7cf53 : MethodName := ⟨RJ9, "min", "(II)I"⟩
def RJ0 : String := "java/lang/String"
def TJ0 : u_T := fun k => match k with
  | 0 => ("java/lang/String", "value", "[B", true)
  | _ => ("java/lang/String", "coder", "B", true)
def tyJ0 : Nat → FieldType := fun k => match k with
  | 0 => .array .byte
  | _ => .byte
abbrev wsJ00 : List Cond := u_ws RJ0 TJ0 2
theorem nmJ0 : ∀ a, a < 2 → ∀ b, b < 2 → a ≠ b → (TJ0 a).2.1 ≠ (TJ0 b).2.1 := by decide +kernel
theorem tyJ0_ok : ∀ k, k < 2 → parseFieldDescriptor (TJ0 k).2.2.1 = some (tyJ0 k) := by decide +kernel
def RJ10 : String := "java/lang/System"
def TJ10 : u_T := fun k => match k with
  | _ => ("", "", "", false)
def tyJ10 : Nat → FieldType := fun k => match k with
  | _ => .int
abbrev wsJ100 : List Cond := u_ws RJ10 TJ10 0
theorem nmJ10 : ∀ a, a < 0 → ∀ b, b < 0 → a ≠ b → (TJ10 a).2.1 ≠ (TJ10 b).2.1 := by decide +kernel
theorem tyJ10_ok : ∀ k, k < 0 → parseFieldDescriptor (TJ10 k).2.2.1 = some (tyJ10 k) := by decide +kernel
def RJ7 : String := "java/util/Arrays"
def TJ7 : u_T := fun k => match k with
  | _ => ("", "", "", false)
def tyJ7 : Nat → FieldType := fun k => match k with
  | _ => .int
abbrev wsJ70 : List Cond := u_ws RJ7 TJ7 0
theorem nmJ7 : ∀ a, a < 0 → ∀ b, b < 0 → a ≠ b → (TJ7 a).2.1 ≠ (TJ7 b).2.1 := by decide +kernel
theorem tyJ7_ok : ∀ k, k < 0 → parseFieldDescriptor (TJ7 k).2.2.1 = some (tyJ7 k) := by decide +kernel
abbrev cJ7_copyOf_59c91 : ByteArray := prog_22_method_123_code
def yJ7_copyOf_59c91 : MethodName := ⟨RJ7, "copyOf", "([II)[I"⟩
def RL : String := "PlateRegisterLaw"
abbrev cL_addKeeper : ByteArray := method_3_code
def yL_addKeeper : MethodName := ⟨RL, "addKeeper", "(LPlateRegister;[J)I"⟩
abbrev cL_pass : ByteArray := method_4_code
def yL_pass : MethodName := ⟨RL, "pass", "(LPlateRegister;I[J)I"⟩
abbrev cL_register : ByteArray := method_5_code
def yL_register : MethodName := ⟨RL, "register", "(LPlateRegister;IC[J)I"⟩
abbrev cL_bringIn : ByteArray := method_6_code
def yL_bringIn : MethodName := ⟨RL, "bringIn", "(LPlateRegister;IC[J)I"⟩
abbrev cL_admit : ByteArray := method_7_code
def yL_admit : MethodName := ⟨RL, "admit", "(LPlateRegister;I[J)I"⟩
abbrev cL_setOnRoad : ByteArray := method_8_code
def yL_setOnRoad : MethodName := ⟨RL, "setOnRoad", "(LPlateRegister;IZ[J)I"⟩
abbrev cL_isOnRoad : ByteArray := method_9_code
def yL_isOnRoad : MethodName := ⟨RL, "isOnRoad", "(LPlateRegister;II[J)I"⟩
abbrev cL_scrap : ByteArray := method_10_code
def yL_scrap : MethodName := ⟨RL, "scrap", "(LPlateRegister;I[J)I"⟩
abbrev cL_kindOf : ByteArray := method_11_code
def yL_kindOf : MethodName := ⟨RL, "kindOf", "(LPlateRegister;I[J)I"⟩
abbrev cL_sell : ByteArray := method_12_code
def yL_sell : MethodName := ⟨RL, "sell", "(LPlateRegister;IIII[J)I"⟩
abbrev cL_buy : ByteArray := method_13_code
def yL_buy : MethodName := ⟨RL, "buy", "(LPlateRegister;III[J)I"⟩
abbrev cL_withdraw : ByteArray := method_14_code
def yL_withdraw : MethodName := ⟨RL, "withdraw", "(LPlateRegister;I[J)I"⟩
abbrev cL_stateOf : ByteArray := method_15_code
def yL_stateOf : MethodName := ⟨RL, "stateOf", "(LPlateRegister;I[J)I"⟩
abbrev cL_partnerOf : ByteArray := method_16_code
def yL_partnerOf : MethodName := ⟨RL, "partnerOf", "(LPlateRegister;I[J)I"⟩
abbrev cL_openNotices : ByteArray := method_17_code
def yL_openNotices : MethodName := ⟨RL, "openNotices", "(LPlateRegister;I[J)I"⟩
abbrev cL_keeperOn : ByteArray := method_18_code
def yL_keeperOn : MethodName := ⟨RL, "keeperOn", "(LPlateRegister;II[J)I"⟩
abbrev cL_keeperByGoing : ByteArray := method_19_code
def yL_keeperByGoing : MethodName := ⟨RL, "keeperByGoing", "(LPlateRegister;II[J)I"⟩
abbrev cL_transfers : ByteArray := method_20_code
def yL_transfers : MethodName := ⟨RL, "transfers", "(LPlateRegister;I[J)I"⟩
abbrev cL_transferDay : ByteArray := method_21_code
def yL_transferDay : MethodName := ⟨RL, "transferDay", "(LPlateRegister;II[J)I"⟩
abbrev cL_keptBy : ByteArray := method_22_code
def yL_keptBy : MethodName := ⟨RL, "keptBy", "(LPlateRegister;I[J)I"⟩
abbrev cL_addLien : ByteArray := method_23_code
def yL_addLien : MethodName := ⟨RL, "addLien", "(LPlateRegister;ICI[J)I"⟩
abbrev cL_payLien : ByteArray := method_24_code
def yL_payLien : MethodName := ⟨RL, "payLien", "(LPlateRegister;ICI[J)I"⟩
abbrev cL_lienOf : ByteArray := method_25_code
def yL_lienOf : MethodName := ⟨RL, "lienOf", "(LPlateRegister;IC[J)I"⟩
abbrev cL_isBlocked : ByteArray := method_26_code
def yL_isBlocked : MethodName := ⟨RL, "isBlocked", "(LPlateRegister;I[J)I"⟩
abbrev cL_keepPlate : ByteArray := method_27_code
def yL_keepPlate : MethodName := ⟨RL, "keepPlate", "(LPlateRegister;I[J)I"⟩
abbrev cL_putOn : ByteArray := method_28_code
def yL_putOn : MethodName := ⟨RL, "putOn", "(LPlateRegister;II[J)I"⟩
abbrev cL_swapPlates : ByteArray := method_29_code
def yL_swapPlates : MethodName := ⟨RL, "swapPlates", "(LPlateRegister;II[J)I"⟩
abbrev cL_plateState : ByteArray := method_30_code
def yL_plateState : MethodName := ⟨RL, "plateState", "(LPlateRegister;I[J)I"⟩
abbrev cL_daysKept : ByteArray := method_31_code
def yL_daysKept : MethodName := ⟨RL, "daysKept", "(LPlateRegister;I[J)I"⟩
abbrev cL_plateOn : ByteArray := method_32_code
def yL_plateOn : MethodName := ⟨RL, "plateOn", "(LPlateRegister;II[J)I"⟩
abbrev cL_vehicleWith : ByteArray := method_33_code
def yL_vehicleWith : MethodName := ⟨RL, "vehicleWith", "(LPlateRegister;II[J)I"⟩
abbrev cL_vehicleByVehicles : ByteArray := method_34_code
def yL_vehicleByVehicles : MethodName := ⟨RL, "vehicleByVehicles", "(LPlateRegister;II[J)I"⟩
abbrev cL_due : ByteArray := method_35_code
def yL_due : MethodName := ⟨RL, "due", "(LPlateRegister;II[J)I"⟩
abbrev cL_owes : ByteArray := method_36_code
def yL_owes : MethodName := ⟨RL, "owes", "(LPlateRegister;I[J)I"⟩
abbrev cL_owesByDays : ByteArray := method_37_code
def yL_owesByDays : MethodName := ⟨RL, "owesByDays", "(LPlateRegister;I[J)I"⟩
abbrev cL_pay : ByteArray := method_38_code
def yL_pay : MethodName := ⟨RL, "pay", "(LPlateRegister;II[J)I"⟩
abbrev cL_mostOwing : ByteArray := method_39_code
def yL_mostOwing : MethodName := ⟨RL, "mostOwing", "(LPlateRegister;[J)I"⟩
abbrev cL_roadShare : ByteArray := method_40_code
def yL_roadShare : MethodName := ⟨RL, "roadShare", "(LPlateRegister;[D)I"⟩
abbrev cL_meanTransfers : ByteArray := method_41_code
def yL_meanTransfers : MethodName := ⟨RL, "meanTransfers", "(LPlateRegister;[D)I"⟩
abbrev cL_law : ByteArray := code
def yL_law : MethodName := ⟨RL, "law", "([I)Z"⟩
end
section
theorem dL_addKeeper_0 : decode cL_addKeeper 0 = .ok (.aload_n 1, 1) := by decide +kernel
theorem dL_addKeeper_1 : decode cL_addKeeper 1 = .ok (.iconst 0, 1) := by decide +kernel
theorem dL_addKeeper_2 : decode cL_addKeeper 2 = .ok (.aload_n 0, 1) := by decide +kernel
theorem dL_addKeeper_3 : decode cL_addKeeper 3 = .ok (.invokevirtual 7, 3) := by decide +kernel
theorem dL_addKeeper_6 : decode cL_addKeeper 6 = .ok (.i2l, 1) := by decide +kernel
theorem dL_addKeeper_7 : decode cL_addKeeper 7 = .ok (.lastore, 1) := by decide +kernel
theorem dL_addKeeper_8 : decode cL_addKeeper 8 = .ok (.goto 6, 3) := by decide +kernel
theorem dL_addKeeper_11 : decode cL_addKeeper 11 = .ok (.astore_n 2, 1) := by decide +kernel
theorem dL_addKeeper_12 : decode cL_addKeeper 12 = .ok (.iconst 1, 1) := by decide +kernel
theorem dL_addKeeper_13 : decode cL_addKeeper 13 = .ok (.ireturn, 1) := by decide +kernel
theorem dL_addKeeper_14 : decode cL_addKeeper 14 = .ok (.iconst 0, 1) := by decide +kernel
theorem dL_addKeeper_15 : decode cL_addKeeper 15 = .ok (.ireturn, 1) := by decide +kernel
theorem dL_pass_0 : decode cL_pass 0 = .ok (.aload_n 2, 1) := by decide +kernel
theorem dL_pass_1 : decode cL_pass 1 = .ok (.iconst 0, 1) := by decide +kernel
theorem dL_pass_2 : decode cL_pass 2 = .ok (.aload_n 0, 1) := by decide +kernel
theorem dL_pass_3 : decode cL_pass 3 = .ok (.iload_n 1, 1) := by decide +kernel
theorem dL_pass_4 : decode cL_pass 4 = .ok (.invokevirtual 15, 3) := by decide +kernel
theorem dL_pass_7 : decode cL_pass 7 = .ok (.i2l, 1) := by decide +kernel
theorem dL_pass_8 : decode cL_pass 8 = .ok (.lastore, 1) := by decide +kernel
theorem dL_pass_9 : decode cL_pass 9 = .ok (.goto 6, 3) := by decide +kernel
theorem dL_pass_12 : decode cL_pass 12 = .ok (.astore_n 3, 1) := by decide +kernel
theorem dL_pass_13 : decode cL_pass 13 = .ok (.iconst 1, 1) := by decide +kernel
theorem dL_pass_14 : decode cL_pass 14 = .ok (.ireturn, 1) := by decide +kernel
theorem dL_pass_15 : decode cL_pass 15 = .ok (.iconst 0, 1) := by decide +kernel
theorem dL_pass_16 : decode cL_pass 16 = .ok (.ireturn, 1) := by decide +kernel
theorem dL_register_0 : decode cL_register 0 = .ok (.aload_n 3, 1) := by decide +kernel
theorem dL_register_1 : decode cL_register 1 = .ok (.iconst 0, 1) := by decide +kernel
theorem dL_register_2 : decode cL_register 2 = .ok (.aload_n 0, 1) := by decide +kernel
theorem dL_register_3 : decode cL_register 3 = .ok (.iload_n 1, 1) := by decide +kernel
theorem dL_register_4 : decode cL_register 4 = .ok (.iload_n 2, 1) := by decide +kernel
theorem dL_register_5 : decode cL_register 5 = .ok (.invokevirtual 21, 3) := by decide +kernel
theorem dL_register_8 : decode cL_register 8 = .ok (.i2l, 1) := by decide +kernel
theorem dL_register_9 : decode cL_register 9 = .ok (.lastore, 1) := by decide +kernel
theorem dL_register_10 : decode cL_register 10 = .ok (.goto 15, 3) := by decide +kernel
theorem dL_register_13 : decode cL_register 13 = .ok (.astore 4, 2) := by decide +kernel
theorem dL_register_15 : decode cL_register 15 = .ok (.iconst 1, 1) := by decide +kernel
theorem dL_register_16 : decode cL_register 16 = .ok (.ireturn, 1) := by decide +kernel
theorem dL_register_17 : decode cL_register 17 = .ok (.astore 4, 2) := by decide +kernel
theorem dL_register_19 : decode cL_register 19 = .ok (.iconst 2, 1) := by decide +kernel
theorem dL_register_20 : decode cL_register 20 = .ok (.ireturn, 1) := by decide +kernel
theorem dL_register_21 : decode cL_register 21 = .ok (.astore 4, 2) := by decide +kernel
theorem dL_register_23 : decode cL_register 23 = .ok (.iconst 3, 1) := by decide +kernel
theorem dL_register_24 : decode cL_register 24 = .ok (.ireturn, 1) := by decide +kernel
theorem dL_register_25 : decode cL_register 25 = .ok (.iconst 0, 1) := by decide +kernel
theorem dL_register_26 : decode cL_register 26 = .ok (.ireturn, 1) := by decide +kernel
theorem dL_bringIn_0 : decode cL_bringIn 0 = .ok (.aload_n 3, 1) := by decide +kernel
theorem dL_bringIn_1 : decode cL_bringIn 1 = .ok (.iconst 0, 1) := by decide +kernel
theorem dL_bringIn_2 : decode cL_bringIn 2 = .ok (.aload_n 0, 1) := by decide +kernel
theorem dL_bringIn_3 : decode cL_bringIn 3 = .ok (.iload_n 1, 1) := by decide +kernel
theorem dL_bringIn_4 : decode cL_bringIn 4 = .ok (.iload_n 2, 1) := by decide +kernel
theorem dL_bringIn_5 : decode cL_bringIn 5 = .ok (.invokevirtual 27, 3) := by decide +kernel
theorem dL_bringIn_8 : decode cL_bringIn 8 = .ok (.i2l, 1) := by decide +kernel
theorem dL_bringIn_9 : decode cL_bringIn 9 = .ok (.lastore, 1) := by decide +kernel
theorem dL_bringIn_10 : decode cL_bringIn 10 = .ok (.goto 15, 3) := by decide +kernel
theorem dL_bringIn_13 : decode cL_bringIn 13 = .ok (.astore 4, 2) := by decide +kernel
theorem dL_bringIn_15 : decode cL_bringIn 15 = .ok (.iconst 1, 1) := by decide +kernel
theorem dL_bringIn_16 : decode cL_bringIn 16 = .ok (.ireturn, 1) := by decide +kernel
theorem dL_bringIn_17 : decode cL_bringIn 17 = .ok (.astore 4, 2) := by decide +kernel
theorem dL_bringIn_19 : decode cL_bringIn 19 = .ok (.iconst 2, 1) := by decide +kernel
theorem dL_bringIn_20 : decode cL_bringIn 20 = .ok (.ireturn, 1) := by decide +kernel
theorem dL_bringIn_21 : decode cL_bringIn 21 = .ok (.astore 4, 2) := by decide +kernel
theorem dL_bringIn_23 : decode cL_bringIn 23 = .ok (.iconst 3, 1) := by decide +kernel
theorem dL_bringIn_24 : decode cL_bringIn 24 = .ok (.ireturn, 1) := by decide +kernel
theorem dL_bringIn_25 : decode cL_bringIn 25 = .ok (.iconst 0, 1) := by decide +kernel
theorem dL_bringIn_26 : decode cL_bringIn 26 = .ok (.ireturn, 1) := by decide +kernel
theorem dL_admit_0 : decode cL_admit 0 = .ok (.aload_n 2, 1) := by decide +kernel
theorem dL_admit_1 : decode cL_admit 1 = .ok (.iconst 0, 1) := by decide +kernel
theorem dL_admit_2 : decode cL_admit 2 = .ok (.aload_n 0, 1) := by decide +kernel
theorem dL_admit_3 : decode cL_admit 3 = .ok (.iload_n 1, 1) := by decide +kernel
theorem dL_admit_4 : decode cL_admit 4 = .ok (.invokevirtual 30, 3) := by decide +kernel
theorem dL_admit_7 : decode cL_admit 7 = .ok (.i2l, 1) := by decide +kernel
theorem dL_admit_8 : decode cL_admit 8 = .ok (.lastore, 1) := by decide +kernel
theorem dL_admit_9 : decode cL_admit 9 = .ok (.goto 12, 3) := by decide +kernel
theorem dL_admit_12 : decode cL_admit 12 = .ok (.astore_n 3, 1) := by decide +kernel
theorem dL_admit_13 : decode cL_admit 13 = .ok (.iconst 1, 1) := by decide +kernel
theorem dL_admit_14 : decode cL_admit 14 = .ok (.ireturn, 1) := by decide +kernel
theorem dL_admit_15 : decode cL_admit 15 = .ok (.astore_n 3, 1) := by decide +kernel
theorem dL_admit_16 : decode cL_admit 16 = .ok (.iconst 2, 1) := by decide +kernel
theorem dL_admit_17 : decode cL_admit 17 = .ok (.ireturn, 1) := by decide +kernel
theorem dL_admit_18 : decode cL_admit 18 = .ok (.astore_n 3, 1) := by decide +kernel
theorem dL_admit_19 : decode cL_admit 19 = .ok (.iconst 3, 1) := by decide +kernel
theorem dL_admit_20 : decode cL_admit 20 = .ok (.ireturn, 1) := by decide +kernel
theorem dL_admit_21 : decode cL_admit 21 = .ok (.iconst 0, 1) := by decide +kernel
theorem dL_admit_22 : decode cL_admit 22 = .ok (.ireturn, 1) := by decide +kernel
theorem dL_setOnRoad_0 : decode cL_setOnRoad 0 = .ok (.aload_n 3, 1) := by decide +kernel
theorem dL_setOnRoad_1 : decode cL_setOnRoad 1 = .ok (.iconst 0, 1) := by decide +kernel
theorem dL_setOnRoad_2 : decode cL_setOnRoad 2 = .ok (.aload_n 0, 1) := by decide +kernel
theorem dL_setOnRoad_3 : decode cL_setOnRoad 3 = .ok (.iload_n 1, 1) := by decide +kernel
theorem dL_setOnRoad_4 : decode cL_setOnRoad 4 = .ok (.iload_n 2, 1) := by decide +kernel
theorem dL_setOnRoad_5 : decode cL_setOnRoad 5 = .ok (.invokevirtual 35, 3) := by decide +kernel
theorem dL_setOnRoad_8 : decode cL_setOnRoad 8 = .ok (.ifCond .eq 7, 3) := by decide +kernel
theorem dL_setOnRoad_11 : decode cL_setOnRoad 11 = .ok (.lconst 1, 1) := by decide +kernel
theorem dL_setOnRoad_12 : decode cL_setOnRoad 12 = .ok (.goto 4, 3) := by decide +kernel
theorem dL_setOnRoad_15 : decode cL_setOnRoad 15 = .ok (.lconst 0, 1) := by decide +kernel
theorem dL_setOnRoad_16 : decode cL_setOnRoad 16 = .ok (.lastore, 1) := by decide +kernel
theorem dL_setOnRoad_17 : decode cL_setOnRoad 17 = .ok (.goto 11, 3) := by decide +kernel
theorem dL_setOnRoad_20 : decode cL_setOnRoad 20 = .ok (.astore 4, 2) := by decide +kernel
theorem dL_setOnRoad_22 : decode cL_setOnRoad 22 = .ok (.iconst 1, 1) := by decide +kernel
theorem dL_setOnRoad_23 : decode cL_setOnRoad 23 = .ok (.ireturn, 1) := by decide +kernel
theorem dL_setOnRoad_24 : decode cL_setOnRoad 24 = .ok (.astore 4, 2) := by decide +kernel
theorem dL_setOnRoad_26 : decode cL_setOnRoad 26 = .ok (.iconst 2, 1) := by decide +kernel
theorem dL_setOnRoad_27 : decode cL_setOnRoad 27 = .ok (.ireturn, 1) := by decide +kernel
theorem dL_setOnRoad_28 : decode cL_setOnRoad 28 = .ok (.iconst 0, 1) := by decide +kernel
theorem dL_setOnRoad_29 : decode cL_setOnRoad 29 = .ok (.ireturn, 1) := by decide +kernel
theorem dL_isOnRoad_0 : decode cL_isOnRoad 0 = .ok (.aload_n 3, 1) := by decide +kernel
theorem dL_isOnRoad_1 : decode cL_isOnRoad 1 = .ok (.iconst 0, 1) := by decide +kernel
theorem dL_isOnRoad_2 : decode cL_isOnRoad 2 = .ok (.aload_n 0, 1) := by decide +kernel
theorem dL_isOnRoad_3 : decode cL_isOnRoad 3 = .ok (.iload_n 1, 1) := by decide +kernel
theorem dL_isOnRoad_4 : decode cL_isOnRoad 4 = .ok (.iload_n 2, 1) := by decide +kernel
theorem dL_isOnRoad_5 : decode cL_isOnRoad 5 = .ok (.invokevirtual 39, 3) := by decide +kernel
theorem dL_isOnRoad_8 : decode cL_isOnRoad 8 = .ok (.ifCond .eq 7, 3) := by decide +kernel
theorem dL_isOnRoad_11 : decode cL_isOnRoad 11 = .ok (.lconst 1, 1) := by decide +kernel
theorem dL_isOnRoad_12 : decode cL_isOnRoad 12 = .ok (.goto 4, 3) := by decide +kernel
theorem dL_isOnRoad_15 : decode cL_isOnRoad 15 = .ok (.lconst 0, 1) := by decide +kernel
theorem dL_isOnRoad_16 : decode cL_isOnRoad 16 = .ok (.lastore, 1) := by decide +kernel
theorem dL_isOnRoad_17 : decode cL_isOnRoad 17 = .ok (.goto 11, 3) := by decide +kernel
theorem dL_isOnRoad_20 : decode cL_isOnRoad 20 = .ok (.astore 4, 2) := by decide +kernel
theorem dL_isOnRoad_22 : decode cL_isOnRoad 22 = .ok (.iconst 1, 1) := by decide +kernel
theorem dL_isOnRoad_23 : decode cL_isOnRoad 23 = .ok (.ireturn, 1) := by decide +kernel
theorem dL_isOnRoad_24 : decode cL_isOnRoad 24 = .ok (.astore 4, 2) := by decide +kernel
theorem dL_isOnRoad_26 : decode cL_isOnRoad 26 = .ok (.iconst 2, 1) := by decide +kernel
theorem dL_isOnRoad_27 : decode cL_isOnRoad 27 = .ok (.ireturn, 1) := by decide +kernel
theorem dL_isOnRoad_28 : decode cL_isOnRoad 28 = .ok (.iconst 0, 1) := by decide +kernel
theorem dL_isOnRoad_29 : decode cL_isOnRoad 29 = .ok (.ireturn, 1) := by decide +kernel
theorem dL_scrap_0 : decode cL_scrap 0 = .ok (.aload_n 2, 1) := by decide +kernel
theorem dL_scrap_1 : decode cL_scrap 1 = .ok (.iconst 0, 1) := by decide +kernel
theorem dL_scrap_2 : decode cL_scrap 2 = .ok (.aload_n 0, 1) := by decide +kernel
theorem dL_scrap_3 : decode cL_scrap 3 = .ok (.iload_n 1, 1) := by decide +kernel
theorem dL_scrap_4 : decode cL_scrap 4 = .ok (.invokevirtual 43, 3) := by decide +kernel
theorem dL_scrap_7 : decode cL_scrap 7 = .ok (.i2l, 1) := by decide +kernel
theorem dL_scrap_8 : decode cL_scrap 8 = .ok (.lastore, 1) := by decide +kernel
theorem dL_scrap_9 : decode cL_scrap 9 = .ok (.goto 9, 3) := by decide +kernel
theorem dL_scrap_12 : decode cL_scrap 12 = .ok (.astore_n 3, 1) := by decide +kernel
theorem dL_scrap_13 : decode cL_scrap 13 = .ok (.iconst 1, 1) := by decide +kernel
theorem dL_scrap_14 : decode cL_scrap 14 = .ok (.ireturn, 1) := by decide +kernel
theorem dL_scrap_15 : decode cL_scrap 15 = .ok (.astore_n 3, 1) := by decide +kernel
theorem dL_scrap_16 : decode cL_scrap 16 = .ok (.iconst 2, 1) := by decide +kernel
theorem dL_scrap_17 : decode cL_scrap 17 = .ok (.ireturn, 1) := by decide +kernel
theorem dL_scrap_18 : decode cL_scrap 18 = .ok (.iconst 0, 1) := by decide +kernel
theorem dL_scrap_19 : decode cL_scrap 19 = .ok (.ireturn, 1) := by decide +kernel
theorem dL_kindOf_0 : decode cL_kindOf 0 = .ok (.aload_n 2, 1) := by decide +kernel
theorem dL_kindOf_1 : decode cL_kindOf 1 = .ok (.iconst 0, 1) := by decide +kernel
theorem dL_kindOf_2 : decode cL_kindOf 2 = .ok (.aload_n 0, 1) := by decide +kernel
theorem dL_kindOf_3 : decode cL_kindOf 3 = .ok (.iload_n 1, 1) := by decide +kernel
theorem dL_kindOf_4 : decode cL_kindOf 4 = .ok (.invokevirtual 46, 3) := by decide +kernel
theorem dL_kindOf_7 : decode cL_kindOf 7 = .ok (.i2l, 1) := by decide +kernel
theorem dL_kindOf_8 : decode cL_kindOf 8 = .ok (.lastore, 1) := by decide +kernel
theorem dL_kindOf_9 : decode cL_kindOf 9 = .ok (.goto 6, 3) := by decide +kernel
theorem dL_kindOf_12 : decode cL_kindOf 12 = .ok (.astore_n 3, 1) := by decide +kernel
theorem dL_kindOf_13 : decode cL_kindOf 13 = .ok (.iconst 1, 1) := by decide +kernel
theorem dL_kindOf_14 : decode cL_kindOf 14 = .ok (.ireturn, 1) := by decide +kernel
theorem dL_kindOf_15 : decode cL_kindOf 15 = .ok (.iconst 0, 1) := by decide +kernel
theorem dL_kindOf_16 : decode cL_kindOf 16 = .ok (.ireturn, 1) := by decide +kernel
theorem dL_sell_0 : decode cL_sell 0 = .ok (.aload 5, 2) := by decide +kernel
theorem dL_sell_2 : decode cL_sell 2 = .ok (.iconst 0, 1) := by decide +kernel
theorem dL_sell_3 : decode cL_sell 3 = .ok (.aload_n 0, 1) := by decide +kernel
theorem dL_sell_4 : decode cL_sell 4 = .ok (.iload_n 1, 1) := by decide +kernel
theorem dL_sell_5 : decode cL_sell 5 = .ok (.iload_n 2, 1) := by decide +kernel
theorem dL_sell_6 : decode cL_sell 6 = .ok (.iload_n 3, 1) := by decide +kernel
theorem dL_sell_7 : decode cL_sell 7 = .ok (.iload 4, 2) := by decide +kernel
theorem dL_sell_9 : decode cL_sell 9 = .ok (.invokevirtual 50, 3) := by decide +kernel
theorem dL_sell_12 : decode cL_sell 12 = .ok (.i2l, 1) := by decide +kernel
theorem dL_sell_13 : decode cL_sell 13 = .ok (.lastore, 1) := by decide +kernel
theorem dL_sell_14 : decode cL_sell 14 = .ok (.goto 19, 3) := by decide +kernel
theorem dL_sell_17 : decode cL_sell 17 = .ok (.astore 6, 2) := by decide +kernel
theorem dL_sell_19 : decode cL_sell 19 = .ok (.iconst 1, 1) := by decide +kernel
theorem dL_sell_20 : decode cL_sell 20 = .ok (.ireturn, 1) := by decide +kernel
theorem dL_sell_21 : decode cL_sell 21 = .ok (.astore 6, 2) := by decide +kernel
theorem dL_sell_23 : decode cL_sell 23 = .ok (.iconst 2, 1) := by decide +kernel
theorem dL_sell_24 : decode cL_sell 24 = .ok (.ireturn, 1) := by decide +kernel
theorem dL_sell_25 : decode cL_sell 25 = .ok (.astore 6, 2) := by decide +kernel
theorem dL_sell_27 : decode cL_sell 27 = .ok (.iconst 3, 1) := by decide +kernel
theorem dL_sell_28 : decode cL_sell 28 = .ok (.ireturn, 1) := by decide +kernel
theorem dL_sell_29 : decode cL_sell 29 = .ok (.astore 6, 2) := by decide +kernel
theorem dL_sell_31 : decode cL_sell 31 = .ok (.iconst 4, 1) := by decide +kernel
theorem dL_sell_32 : decode cL_sell 32 = .ok (.ireturn, 1) := by decide +kernel
theorem dL_sell_33 : decode cL_sell 33 = .ok (.iconst 0, 1) := by decide +kernel
theorem dL_sell_34 : decode cL_sell 34 = .ok (.ireturn, 1) := by decide +kernel
theorem dL_buy_0 : decode cL_buy 0 = .ok (.aload 4, 2) := by decide +kernel
theorem dL_buy_2 : decode cL_buy 2 = .ok (.iconst 0, 1) := by decide +kernel
theorem dL_buy_3 : decode cL_buy 3 = .ok (.aload_n 0, 1) := by decide +kernel
theorem dL_buy_4 : decode cL_buy 4 = .ok (.iload_n 1, 1) := by decide +kernel
theorem dL_buy_5 : decode cL_buy 5 = .ok (.iload_n 2, 1) := by decide +kernel
theorem dL_buy_6 : decode cL_buy 6 = .ok (.iload_n 3, 1) := by decide +kernel
theorem dL_buy_7 : decode cL_buy 7 = .ok (.invokevirtual 54, 3) := by decide +kernel
theorem dL_buy_10 : decode cL_buy 10 = .ok (.i2l, 1) := by decide +kernel
theorem dL_buy_11 : decode cL_buy 11 = .ok (.lastore, 1) := by decide +kernel
theorem dL_buy_12 : decode cL_buy 12 = .ok (.goto 15, 3) := by decide +kernel
theorem dL_buy_15 : decode cL_buy 15 = .ok (.astore 5, 2) := by decide +kernel
theorem dL_buy_17 : decode cL_buy 17 = .ok (.iconst 1, 1) := by decide +kernel
theorem dL_buy_18 : decode cL_buy 18 = .ok (.ireturn, 1) := by decide +kernel
theorem dL_buy_19 : decode cL_buy 19 = .ok (.astore 5, 2) := by decide +kernel
theorem dL_buy_21 : decode cL_buy 21 = .ok (.iconst 2, 1) := by decide +kernel
theorem dL_buy_22 : decode cL_buy 22 = .ok (.ireturn, 1) := by decide +kernel
theorem dL_buy_23 : decode cL_buy 23 = .ok (.astore 5, 2) := by decide +kernel
theorem dL_buy_25 : decode cL_buy 25 = .ok (.iconst 3, 1) := by decide +kernel
theorem dL_buy_26 : decode cL_buy 26 = .ok (.ireturn, 1) := by decide +kernel
theorem dL_buy_27 : decode cL_buy 27 = .ok (.iconst 0, 1) := by decide +kernel
theorem dL_buy_28 : decode cL_buy 28 = .ok (.ireturn, 1) := by decide +kernel
theorem dL_withdraw_0 : decode cL_withdraw 0 = .ok (.aload_n 2, 1) := by decide +kernel
theorem dL_withdraw_1 : decode cL_withdraw 1 = .ok (.iconst 0, 1) := by decide +kernel
theorem dL_withdraw_2 : decode cL_withdraw 2 = .ok (.aload_n 0, 1) := by decide +kernel
theorem dL_withdraw_3 : decode cL_withdraw 3 = .ok (.iload_n 1, 1) := by decide +kernel
theorem dL_withdraw_4 : decode cL_withdraw 4 = .ok (.invokevirtual 58, 3) := by decide +kernel
theorem dL_withdraw_7 : decode cL_withdraw 7 = .ok (.i2l, 1) := by decide +kernel
theorem dL_withdraw_8 : decode cL_withdraw 8 = .ok (.lastore, 1) := by decide +kernel
theorem dL_withdraw_9 : decode cL_withdraw 9 = .ok (.goto 9, 3) := by decide +kernel
theorem dL_withdraw_12 : decode cL_withdraw 12 = .ok (.astore_n 3, 1) := by decide +kernel
theorem dL_withdraw_13 : decode cL_withdraw 13 = .ok (.iconst 1, 1) := by decide +kernel
theorem dL_withdraw_14 : decode cL_withdraw 14 = .ok (.ireturn, 1) := by decide +kernel
theorem dL_withdraw_15 : decode cL_withdraw 15 = .ok (.astore_n 3, 1) := by decide +kernel
theorem dL_withdraw_16 : decode cL_withdraw 16 = .ok (.iconst 2, 1) := by decide +kernel
theorem dL_withdraw_17 : decode cL_withdraw 17 = .ok (.ireturn, 1) := by decide +kernel
theorem dL_withdraw_18 : decode cL_withdraw 18 = .ok (.iconst 0, 1) := by decide +kernel
theorem dL_withdraw_19 : decode cL_withdraw 19 = .ok (.ireturn, 1) := by decide +kernel
theorem dL_stateOf_0 : decode cL_stateOf 0 = .ok (.aload_n 2, 1) := by decide +kernel
theorem dL_stateOf_1 : decode cL_stateOf 1 = .ok (.iconst 0, 1) := by decide +kernel
theorem dL_stateOf_2 : decode cL_stateOf 2 = .ok (.aload_n 0, 1) := by decide +kernel
theorem dL_stateOf_3 : decode cL_stateOf 3 = .ok (.iload_n 1, 1) := by decide +kernel
theorem dL_stateOf_4 : decode cL_stateOf 4 = .ok (.invokevirtual 63, 3) := by decide +kernel
theorem dL_stateOf_7 : decode cL_stateOf 7 = .ok (.i2l, 1) := by decide +kernel
theorem dL_stateOf_8 : decode cL_stateOf 8 = .ok (.lastore, 1) := by decide +kernel
theorem dL_stateOf_9 : decode cL_stateOf 9 = .ok (.goto 6, 3) := by decide +kernel
theorem dL_stateOf_12 : decode cL_stateOf 12 = .ok (.astore_n 3, 1) := by decide +kernel
theorem dL_stateOf_13 : decode cL_stateOf 13 = .ok (.iconst 1, 1) := by decide +kernel
theorem dL_stateOf_14 : decode cL_stateOf 14 = .ok (.ireturn, 1) := by decide +kernel
theorem dL_stateOf_15 : decode cL_stateOf 15 = .ok (.iconst 0, 1) := by decide +kernel
theorem dL_stateOf_16 : decode cL_stateOf 16 = .ok (.ireturn, 1) := by decide +kernel
theorem dL_partnerOf_0 : decode cL_partnerOf 0 = .ok (.aload_n 2, 1) := by decide +kernel
theorem dL_partnerOf_1 : decode cL_partnerOf 1 = .ok (.iconst 0, 1) := by decide +kernel
theorem dL_partnerOf_2 : decode cL_partnerOf 2 = .ok (.aload_n 0, 1) := by decide +kernel
theorem dL_partnerOf_3 : decode cL_partnerOf 3 = .ok (.iload_n 1, 1) := by decide +kernel
theorem dL_partnerOf_4 : decode cL_partnerOf 4 = .ok (.invokevirtual 66, 3) := by decide +kernel
theorem dL_partnerOf_7 : decode cL_partnerOf 7 = .ok (.i2l, 1) := by decide +kernel
theorem dL_partnerOf_8 : decode cL_partnerOf 8 = .ok (.lastore, 1) := by decide +kernel
theorem dL_partnerOf_9 : decode cL_partnerOf 9 = .ok (.goto 9, 3) := by decide +kernel
theorem dL_partnerOf_12 : decode cL_partnerOf 12 = .ok (.astore_n 3, 1) := by decide +kernel
theorem dL_partnerOf_13 : decode cL_partnerOf 13 = .ok (.iconst 1, 1) := by decide +kernel
theorem dL_partnerOf_14 : decode cL_partnerOf 14 = .ok (.ireturn, 1) := by decide +kernel
theorem dL_partnerOf_15 : decode cL_partnerOf 15 = .ok (.astore_n 3, 1) := by decide +kernel
theorem dL_partnerOf_16 : decode cL_partnerOf 16 = .ok (.iconst 2, 1) := by decide +kernel
theorem dL_partnerOf_17 : decode cL_partnerOf 17 = .ok (.ireturn, 1) := by decide +kernel
theorem dL_partnerOf_18 : decode cL_partnerOf 18 = .ok (.iconst 0, 1) := by decide +kernel
theorem dL_partnerOf_19 : decode cL_partnerOf 19 = .ok (.ireturn, 1) := by decide +kernel
theorem dL_openNotices_0 : decode cL_openNotices 0 = .ok (.aload_n 2, 1) := by decide +kernel
theorem dL_openNotices_1 : decode cL_openNotices 1 = .ok (.iconst 0, 1) := by decide +kernel
theorem dL_openNotices_2 : decode cL_openNotices 2 = .ok (.aload_n 0, 1) := by decide +kernel
theorem dL_openNotices_3 : decode cL_openNotices 3 = .ok (.iload_n 1, 1) := by decide +kernel
theorem dL_openNotices_4 : decode cL_openNotices 4 = .ok (.invokevirtual 69, 3) := by decide +kernel
theorem dL_openNotices_7 : decode cL_openNotices 7 = .ok (.i2l, 1) := by decide +kernel
theorem dL_openNotices_8 : decode cL_openNotices 8 = .ok (.lastore, 1) := by decide +kernel
theorem dL_openNotices_9 : decode cL_openNotices 9 = .ok (.goto 6, 3) := by decide +kernel
theorem dL_openNotices_12 : decode cL_openNotices 12 = .ok (.astore_n 3, 1) := by decide +kernel
theorem dL_openNotices_13 : decode cL_openNotices 13 = .ok (.iconst 1, 1) := by decide +kernel
theorem dL_openNotices_14 : decode cL_openNotices 14 = .ok (.ireturn, 1) := by decide +kernel
theorem dL_openNotices_15 : decode cL_openNotices 15 = .ok (.iconst 0, 1) := by decide +kernel
theorem dL_openNotices_16 : decode cL_openNotices 16 = .ok (.ireturn, 1) := by decide +kernel
theorem dL_keeperOn_0 : decode cL_keeperOn 0 = .ok (.aload_n 3, 1) := by decide +kernel
theorem dL_keeperOn_1 : decode cL_keeperOn 1 = .ok (.iconst 0, 1) := by decide +kernel
theorem dL_keeperOn_2 : decode cL_keeperOn 2 = .ok (.aload_n 0, 1) := by decide +kernel
theorem dL_keeperOn_3 : decode cL_keeperOn 3 = .ok (.iload_n 1, 1) := by decide +kernel
theorem dL_keeperOn_4 : decode cL_keeperOn 4 = .ok (.iload_n 2, 1) := by decide +kernel
theorem dL_keeperOn_5 : decode cL_keeperOn 5 = .ok (.invokevirtual 72, 3) := by decide +kernel
theorem dL_keeperOn_8 : decode cL_keeperOn 8 = .ok (.i2l, 1) := by decide +kernel
theorem dL_keeperOn_9 : decode cL_keeperOn 9 = .ok (.lastore, 1) := by decide +kernel
theorem dL_keeperOn_10 : decode cL_keeperOn 10 = .ok (.goto 15, 3) := by decide +kernel
theorem dL_keeperOn_13 : decode cL_keeperOn 13 = .ok (.astore 4, 2) := by decide +kernel
theorem dL_keeperOn_15 : decode cL_keeperOn 15 = .ok (.iconst 1, 1) := by decide +kernel
theorem dL_keeperOn_16 : decode cL_keeperOn 16 = .ok (.ireturn, 1) := by decide +kernel
theorem dL_keeperOn_17 : decode cL_keeperOn 17 = .ok (.astore 4, 2) := by decide +kernel
theorem dL_keeperOn_19 : decode cL_keeperOn 19 = .ok (.iconst 2, 1) := by decide +kernel
theorem dL_keeperOn_20 : decode cL_keeperOn 20 = .ok (.ireturn, 1) := by decide +kernel
theorem dL_keeperOn_21 : decode cL_keeperOn 21 = .ok (.astore 4, 2) := by decide +kernel
theorem dL_keeperOn_23 : decode cL_keeperOn 23 = .ok (.iconst 3, 1) := by decide +kernel
theorem dL_keeperOn_24 : decode cL_keeperOn 24 = .ok (.ireturn, 1) := by decide +kernel
theorem dL_keeperOn_25 : decode cL_keeperOn 25 = .ok (.iconst 0, 1) := by decide +kernel
theorem dL_keeperOn_26 : decode cL_keeperOn 26 = .ok (.ireturn, 1) := by decide +kernel
theorem dL_keeperByGoing_0 : decode cL_keeperByGoing 0 = .ok (.aload_n 3, 1) := by decide +kernel
theorem dL_keeperByGoing_1 : decode cL_keeperByGoing 1 = .ok (.iconst 0, 1) := by decide +kernel
theorem dL_keeperByGoing_2 : decode cL_keeperByGoing 2 = .ok (.aload_n 0, 1) := by decide +kernel
theorem dL_keeperByGoing_3 : decode cL_keeperByGoing 3 = .ok (.iload_n 1, 1) := by decide +kernel
theorem dL_keeperByGoing_4 : decode cL_keeperByGoing 4 = .ok (.iload_n 2, 1) := by decide +kernel
theorem dL_keeperByGoing_5 : decode cL_keeperByGoing 5 = .ok (.invokevirtual 76, 3) := by decide +kernel
theorem dL_keeperByGoing_8 : decode cL_keeperByGoing 8 = .ok (.i2l, 1) := by decide +kernel
theorem dL_keeperByGoing_9 : decode cL_keeperByGoing 9 = .ok (.lastore, 1) := by decide +kernel
theorem dL_keeperByGoing_10 : decode cL_keeperByGoing 10 = .ok (.goto 15, 3) := by decide +kernel
theorem dL_keeperByGoing_13 : decode cL_keeperByGoing 13 = .ok (.astore 4, 2) := by decide +kernel
theorem dL_keeperByGoing_15 : decode cL_keeperByGoing 15 = .ok (.iconst 1, 1) := by decide +kernel
theorem dL_keeperByGoing_16 : decode cL_keeperByGoing 16 = .ok (.ireturn, 1) := by decide +kernel
theorem dL_keeperByGoing_17 : decode cL_keeperByGoing 17 = .ok (.astore 4, 2) := by decide +kernel
theorem dL_keeperByGoing_19 : decode cL_keeperByGoing 19 = .ok (.iconst 2, 1) := by decide +kernel
theorem dL_keeperByGoing_20 : decode cL_keeperByGoing 20 = .ok (.ireturn, 1) := by decide +kernel
theorem dL_keeperByGoing_21 : decode cL_keeperByGoing 21 = .ok (.astore 4, 2) := by decide +kernel
theorem dL_keeperByGoing_23 : decode cL_keeperByGoing 23 = .ok (.iconst 3, 1) := by decide +kernel
theorem dL_keeperByGoing_24 : decode cL_keeperByGoing 24 = .ok (.ireturn, 1) := by decide +kernel
theorem dL_keeperByGoing_25 : decode cL_keeperByGoing 25 = .ok (.iconst 0, 1) := by decide +kernel
theorem dL_keeperByGoing_26 : decode cL_keeperByGoing 26 = .ok (.ireturn, 1) := by decide +kernel
theorem dL_transfers_0 : decode cL_transfers 0 = .ok (.aload_n 2, 1) := by decide +kernel
theorem dL_transfers_1 : decode cL_transfers 1 = .ok (.iconst 0, 1) := by decide +kernel
theorem dL_transfers_2 : decode cL_transfers 2 = .ok (.aload_n 0, 1) := by decide +kernel
theorem dL_transfers_3 : decode cL_transfers 3 = .ok (.iload_n 1, 1) := by decide +kernel
theorem dL_transfers_4 : decode cL_transfers 4 = .ok (.invokevirtual 79, 3) := by decide +kernel
theorem dL_transfers_7 : decode cL_transfers 7 = .ok (.i2l, 1) := by decide +kernel
theorem dL_transfers_8 : decode cL_transfers 8 = .ok (.lastore, 1) := by decide +kernel
theorem dL_transfers_9 : decode cL_transfers 9 = .ok (.goto 6, 3) := by decide +kernel
theorem dL_transfers_12 : decode cL_transfers 12 = .ok (.astore_n 3, 1) := by decide +kernel
theorem dL_transfers_13 : decode cL_transfers 13 = .ok (.iconst 1, 1) := by decide +kernel
theorem dL_transfers_14 : decode cL_transfers 14 = .ok (.ireturn, 1) := by decide +kernel
theorem dL_transfers_15 : decode cL_transfers 15 = .ok (.iconst 0, 1) := by decide +kernel
theorem dL_transfers_16 : decode cL_transfers 16 = .ok (.ireturn, 1) := by decide +kernel
theorem dL_transferDay_0 : decode cL_transferDay 0 = .ok (.aload_n 3, 1) := by decide +kernel
theorem dL_transferDay_1 : decode cL_transferDay 1 = .ok (.iconst 0, 1) := by decide +kernel
theorem dL_transferDay_2 : decode cL_transferDay 2 = .ok (.aload_n 0, 1) := by decide +kernel
theorem dL_transferDay_3 : decode cL_transferDay 3 = .ok (.iload_n 1, 1) := by decide +kernel
theorem dL_transferDay_4 : decode cL_transferDay 4 = .ok (.iload_n 2, 1) := by decide +kernel
theorem dL_transferDay_5 : decode cL_transferDay 5 = .ok (.invokevirtual 82, 3) := by decide +kernel
theorem dL_transferDay_8 : decode cL_transferDay 8 = .ok (.i2l, 1) := by decide +kernel
theorem dL_transferDay_9 : decode cL_transferDay 9 = .ok (.lastore, 1) := by decide +kernel
theorem dL_transferDay_10 : decode cL_transferDay 10 = .ok (.goto 7, 3) := by decide +kernel
theorem dL_transferDay_13 : decode cL_transferDay 13 = .ok (.astore 4, 2) := by decide +kernel
theorem dL_transferDay_15 : decode cL_transferDay 15 = .ok (.iconst 1, 1) := by decide +kernel
theorem dL_transferDay_16 : decode cL_transferDay 16 = .ok (.ireturn, 1) := by decide +kernel
theorem dL_transferDay_17 : decode cL_transferDay 17 = .ok (.iconst 0, 1) := by decide +kernel
theorem dL_transferDay_18 : decode cL_transferDay 18 = .ok (.ireturn, 1) := by decide +kernel
theorem dL_keptBy_0 : decode cL_keptBy 0 = .ok (.aload_n 2, 1) := by decide +kernel
theorem dL_keptBy_1 : decode cL_keptBy 1 = .ok (.iconst 0, 1) := by decide +kernel
theorem dL_keptBy_2 : decode cL_keptBy 2 = .ok (.aload_n 0, 1) := by decide +kernel
theorem dL_keptBy_3 : decode cL_keptBy 3 = .ok (.iload_n 1, 1) := by decide +kernel
theorem dL_keptBy_4 : decode cL_keptBy 4 = .ok (.invokevirtual 85, 3) := by decide +kernel
theorem dL_keptBy_7 : decode cL_keptBy 7 = .ok (.i2l, 1) := by decide +kernel
theorem dL_keptBy_8 : decode cL_keptBy 8 = .ok (.lastore, 1) := by decide +kernel
theorem dL_keptBy_9 : decode cL_keptBy 9 = .ok (.goto 6, 3) := by decide +kernel
theorem dL_keptBy_12 : decode cL_keptBy 12 = .ok (.astore_n 3, 1) := by decide +kernel
theorem dL_keptBy_13 : decode cL_keptBy 13 = .ok (.iconst 1, 1) := by decide +kernel
theorem dL_keptBy_14 : decode cL_keptBy 14 = .ok (.ireturn, 1) := by decide +kernel
theorem dL_keptBy_15 : decode cL_keptBy 15 = .ok (.iconst 0, 1) := by decide +kernel
theorem dL_keptBy_16 : decode cL_keptBy 16 = .ok (.ireturn, 1) := by decide +kernel
theorem dL_addLien_0 : decode cL_addLien 0 = .ok (.aload 4, 2) := by decide +kernel
theorem dL_addLien_2 : decode cL_addLien 2 = .ok (.iconst 0, 1) := by decide +kernel
theorem dL_addLien_3 : decode cL_addLien 3 = .ok (.aload_n 0, 1) := by decide +kernel
theorem dL_addLien_4 : decode cL_addLien 4 = .ok (.iload_n 1, 1) := by decide +kernel
theorem dL_addLien_5 : decode cL_addLien 5 = .ok (.iload_n 2, 1) := by decide +kernel
theorem dL_addLien_6 : decode cL_addLien 6 = .ok (.iload_n 3, 1) := by decide +kernel
theorem dL_addLien_7 : decode cL_addLien 7 = .ok (.invokevirtual 88, 3) := by decide +kernel
theorem dL_addLien_10 : decode cL_addLien 10 = .ok (.i2l, 1) := by decide +kernel
theorem dL_addLien_11 : decode cL_addLien 11 = .ok (.lastore, 1) := by decide +kernel
theorem dL_addLien_12 : decode cL_addLien 12 = .ok (.goto 15, 3) := by decide +kernel
theorem dL_addLien_15 : decode cL_addLien 15 = .ok (.astore 5, 2) := by decide +kernel
theorem dL_addLien_17 : decode cL_addLien 17 = .ok (.iconst 1, 1) := by decide +kernel
theorem dL_addLien_18 : decode cL_addLien 18 = .ok (.ireturn, 1) := by decide +kernel
theorem dL_addLien_19 : decode cL_addLien 19 = .ok (.astore 5, 2) := by decide +kernel
theorem dL_addLien_21 : decode cL_addLien 21 = .ok (.iconst 2, 1) := by decide +kernel
theorem dL_addLien_22 : decode cL_addLien 22 = .ok (.ireturn, 1) := by decide +kernel
theorem dL_addLien_23 : decode cL_addLien 23 = .ok (.astore 5, 2) := by decide +kernel
theorem dL_addLien_25 : decode cL_addLien 25 = .ok (.iconst 3, 1) := by decide +kernel
theorem dL_addLien_26 : decode cL_addLien 26 = .ok (.ireturn, 1) := by decide +kernel
theorem dL_addLien_27 : decode cL_addLien 27 = .ok (.iconst 0, 1) := by decide +kernel
theorem dL_addLien_28 : decode cL_addLien 28 = .ok (.ireturn, 1) := by decide +kernel
theorem dL_payLien_0 : decode cL_payLien 0 = .ok (.aload 4, 2) := by decide +kernel
theorem dL_payLien_2 : decode cL_payLien 2 = .ok (.iconst 0, 1) := by decide +kernel
theorem dL_payLien_3 : decode cL_payLien 3 = .ok (.aload_n 0, 1) := by decide +kernel
theorem dL_payLien_4 : decode cL_payLien 4 = .ok (.iload_n 1, 1) := by decide +kernel
theorem dL_payLien_5 : decode cL_payLien 5 = .ok (.iload_n 2, 1) := by decide +kernel
theorem dL_payLien_6 : decode cL_payLien 6 = .ok (.iload_n 3, 1) := by decide +kernel
theorem dL_payLien_7 : decode cL_payLien 7 = .ok (.invokevirtual 92, 3) := by decide +kernel
theorem dL_payLien_10 : decode cL_payLien 10 = .ok (.i2l, 1) := by decide +kernel
theorem dL_payLien_11 : decode cL_payLien 11 = .ok (.lastore, 1) := by decide +kernel
theorem dL_payLien_12 : decode cL_payLien 12 = .ok (.goto 15, 3) := by decide +kernel
theorem dL_payLien_15 : decode cL_payLien 15 = .ok (.astore 5, 2) := by decide +kernel
theorem dL_payLien_17 : decode cL_payLien 17 = .ok (.iconst 1, 1) := by decide +kernel
theorem dL_payLien_18 : decode cL_payLien 18 = .ok (.ireturn, 1) := by decide +kernel
theorem dL_payLien_19 : decode cL_payLien 19 = .ok (.astore 5, 2) := by decide +kernel
theorem dL_payLien_21 : decode cL_payLien 21 = .ok (.iconst 2, 1) := by decide +kernel
theorem dL_payLien_22 : decode cL_payLien 22 = .ok (.ireturn, 1) := by decide +kernel
theorem dL_payLien_23 : decode cL_payLien 23 = .ok (.astore 5, 2) := by decide +kernel
theorem dL_payLien_25 : decode cL_payLien 25 = .ok (.iconst 3, 1) := by decide +kernel
theorem dL_payLien_26 : decode cL_payLien 26 = .ok (.ireturn, 1) := by decide +kernel
theorem dL_payLien_27 : decode cL_payLien 27 = .ok (.iconst 0, 1) := by decide +kernel
theorem dL_payLien_28 : decode cL_payLien 28 = .ok (.ireturn, 1) := by decide +kernel
theorem dL_lienOf_0 : decode cL_lienOf 0 = .ok (.aload_n 3, 1) := by decide +kernel
theorem dL_lienOf_1 : decode cL_lienOf 1 = .ok (.iconst 0, 1) := by decide +kernel
theorem dL_lienOf_2 : decode cL_lienOf 2 = .ok (.aload_n 0, 1) := by decide +kernel
theorem dL_lienOf_3 : decode cL_lienOf 3 = .ok (.iload_n 1, 1) := by decide +kernel
theorem dL_lienOf_4 : decode cL_lienOf 4 = .ok (.iload_n 2, 1) := by decide +kernel
theorem dL_lienOf_5 : decode cL_lienOf 5 = .ok (.invokevirtual 95, 3) := by decide +kernel
theorem dL_lienOf_8 : decode cL_lienOf 8 = .ok (.i2l, 1) := by decide +kernel
theorem dL_lienOf_9 : decode cL_lienOf 9 = .ok (.lastore, 1) := by decide +kernel
theorem dL_lienOf_10 : decode cL_lienOf 10 = .ok (.goto 11, 3) := by decide +kernel
theorem dL_lienOf_13 : decode cL_lienOf 13 = .ok (.astore 4, 2) := by decide +kernel
theorem dL_lienOf_15 : decode cL_lienOf 15 = .ok (.iconst 1, 1) := by decide +kernel
theorem dL_lienOf_16 : decode cL_lienOf 16 = .ok (.ireturn, 1) := by decide +kernel
theorem dL_lienOf_17 : decode cL_lienOf 17 = .ok (.astore 4, 2) := by decide +kernel
theorem dL_lienOf_19 : decode cL_lienOf 19 = .ok (.iconst 2, 1) := by decide +kernel
theorem dL_lienOf_20 : decode cL_lienOf 20 = .ok (.ireturn, 1) := by decide +kernel
theorem dL_lienOf_21 : decode cL_lienOf 21 = .ok (.iconst 0, 1) := by decide +kernel
theorem dL_lienOf_22 : decode cL_lienOf 22 = .ok (.ireturn, 1) := by decide +kernel
theorem dL_isBlocked_0 : decode cL_isBlocked 0 = .ok (.aload_n 2, 1) := by decide +kernel
theorem dL_isBlocked_1 : decode cL_isBlocked 1 = .ok (.iconst 0, 1) := by decide +kernel
theorem dL_isBlocked_2 : decode cL_isBlocked 2 = .ok (.aload_n 0, 1) := by decide +kernel
theorem dL_isBlocked_3 : decode cL_isBlocked 3 = .ok (.iload_n 1, 1) := by decide +kernel
theorem dL_isBlocked_4 : decode cL_isBlocked 4 = .ok (.invokevirtual 98, 3) := by decide +kernel
theorem dL_isBlocked_7 : decode cL_isBlocked 7 = .ok (.ifCond .eq 7, 3) := by decide +kernel
theorem dL_isBlocked_10 : decode cL_isBlocked 10 = .ok (.lconst 1, 1) := by decide +kernel
theorem dL_isBlocked_11 : decode cL_isBlocked 11 = .ok (.goto 4, 3) := by decide +kernel
theorem dL_isBlocked_14 : decode cL_isBlocked 14 = .ok (.lconst 0, 1) := by decide +kernel
theorem dL_isBlocked_15 : decode cL_isBlocked 15 = .ok (.lastore, 1) := by decide +kernel
theorem dL_isBlocked_16 : decode cL_isBlocked 16 = .ok (.goto 6, 3) := by decide +kernel
theorem dL_isBlocked_19 : decode cL_isBlocked 19 = .ok (.astore_n 3, 1) := by decide +kernel
theorem dL_isBlocked_20 : decode cL_isBlocked 20 = .ok (.iconst 1, 1) := by decide +kernel
theorem dL_isBlocked_21 : decode cL_isBlocked 21 = .ok (.ireturn, 1) := by decide +kernel
theorem dL_isBlocked_22 : decode cL_isBlocked 22 = .ok (.iconst 0, 1) := by decide +kernel
theorem dL_isBlocked_23 : decode cL_isBlocked 23 = .ok (.ireturn, 1) := by decide +kernel
theorem dL_keepPlate_0 : decode cL_keepPlate 0 = .ok (.aload_n 2, 1) := by decide +kernel
theorem dL_keepPlate_1 : decode cL_keepPlate 1 = .ok (.iconst 0, 1) := by decide +kernel
theorem dL_keepPlate_2 : decode cL_keepPlate 2 = .ok (.aload_n 0, 1) := by decide +kernel
theorem dL_keepPlate_3 : decode cL_keepPlate 3 = .ok (.iload_n 1, 1) := by decide +kernel
theorem dL_keepPlate_4 : decode cL_keepPlate 4 = .ok (.invokevirtual 102, 3) := by decide +kernel
theorem dL_keepPlate_7 : decode cL_keepPlate 7 = .ok (.i2l, 1) := by decide +kernel
theorem dL_keepPlate_8 : decode cL_keepPlate 8 = .ok (.lastore, 1) := by decide +kernel
theorem dL_keepPlate_9 : decode cL_keepPlate 9 = .ok (.goto 12, 3) := by decide +kernel
theorem dL_keepPlate_12 : decode cL_keepPlate 12 = .ok (.astore_n 3, 1) := by decide +kernel
theorem dL_keepPlate_13 : decode cL_keepPlate 13 = .ok (.iconst 1, 1) := by decide +kernel
theorem dL_keepPlate_14 : decode cL_keepPlate 14 = .ok (.ireturn, 1) := by decide +kernel
theorem dL_keepPlate_15 : decode cL_keepPlate 15 = .ok (.astore_n 3, 1) := by decide +kernel
theorem dL_keepPlate_16 : decode cL_keepPlate 16 = .ok (.iconst 2, 1) := by decide +kernel
theorem dL_keepPlate_17 : decode cL_keepPlate 17 = .ok (.ireturn, 1) := by decide +kernel
theorem dL_keepPlate_18 : decode cL_keepPlate 18 = .ok (.astore_n 3, 1) := by decide +kernel
theorem dL_keepPlate_19 : decode cL_keepPlate 19 = .ok (.iconst 3, 1) := by decide +kernel
theorem dL_keepPlate_20 : decode cL_keepPlate 20 = .ok (.ireturn, 1) := by decide +kernel
theorem dL_keepPlate_21 : decode cL_keepPlate 21 = .ok (.iconst 0, 1) := by decide +kernel
theorem dL_keepPlate_22 : decode cL_keepPlate 22 = .ok (.ireturn, 1) := by decide +kernel
theorem dL_putOn_0 : decode cL_putOn 0 = .ok (.aload_n 3, 1) := by decide +kernel
theorem dL_putOn_1 : decode cL_putOn 1 = .ok (.iconst 0, 1) := by decide +kernel
theorem dL_putOn_2 : decode cL_putOn 2 = .ok (.aload_n 0, 1) := by decide +kernel
theorem dL_putOn_3 : decode cL_putOn 3 = .ok (.iload_n 1, 1) := by decide +kernel
theorem dL_putOn_4 : decode cL_putOn 4 = .ok (.iload_n 2, 1) := by decide +kernel
theorem dL_putOn_5 : decode cL_putOn 5 = .ok (.invokevirtual 105, 3) := by decide +kernel
theorem dL_putOn_8 : decode cL_putOn 8 = .ok (.i2l, 1) := by decide +kernel
theorem dL_putOn_9 : decode cL_putOn 9 = .ok (.lastore, 1) := by decide +kernel
theorem dL_putOn_10 : decode cL_putOn 10 = .ok (.goto 19, 3) := by decide +kernel
theorem dL_putOn_13 : decode cL_putOn 13 = .ok (.astore 4, 2) := by decide +kernel
theorem dL_putOn_15 : decode cL_putOn 15 = .ok (.iconst 1, 1) := by decide +kernel
theorem dL_putOn_16 : decode cL_putOn 16 = .ok (.ireturn, 1) := by decide +kernel
theorem dL_putOn_17 : decode cL_putOn 17 = .ok (.astore 4, 2) := by decide +kernel
theorem dL_putOn_19 : decode cL_putOn 19 = .ok (.iconst 2, 1) := by decide +kernel
theorem dL_putOn_20 : decode cL_putOn 20 = .ok (.ireturn, 1) := by decide +kernel
theorem dL_putOn_21 : decode cL_putOn 21 = .ok (.astore 4, 2) := by decide +kernel
theorem dL_putOn_23 : decode cL_putOn 23 = .ok (.iconst 3, 1) := by decide +kernel
theorem dL_putOn_24 : decode cL_putOn 24 = .ok (.ireturn, 1) := by decide +kernel
theorem dL_putOn_25 : decode cL_putOn 25 = .ok (.astore 4, 2) := by decide +kernel
theorem dL_putOn_27 : decode cL_putOn 27 = .ok (.iconst 4, 1) := by decide +kernel
theorem dL_putOn_28 : decode cL_putOn 28 = .ok (.ireturn, 1) := by decide +kernel
theorem dL_putOn_29 : decode cL_putOn 29 = .ok (.iconst 0, 1) := by decide +kernel
theorem dL_putOn_30 : decode cL_putOn 30 = .ok (.ireturn, 1) := by decide +kernel
theorem dL_swapPlates_0 : decode cL_swapPlates 0 = .ok (.aload_n 3, 1) := by decide +kernel
theorem dL_swapPlates_1 : decode cL_swapPlates 1 = .ok (.iconst 0, 1) := by decide +kernel
theorem dL_swapPlates_2 : decode cL_swapPlates 2 = .ok (.aload_n 0, 1) := by decide +kernel
theorem dL_swapPlates_3 : decode cL_swapPlates 3 = .ok (.iload_n 1, 1) := by decide +kernel
theorem dL_swapPlates_4 : decode cL_swapPlates 4 = .ok (.iload_n 2, 1) := by decide +kernel
theorem dL_swapPlates_5 : decode cL_swapPlates 5 = .ok (.invokevirtual 108, 3) := by decide +kernel
theorem dL_swapPlates_8 : decode cL_swapPlates 8 = .ok (.i2l, 1) := by decide +kernel
theorem dL_swapPlates_9 : decode cL_swapPlates 9 = .ok (.lastore, 1) := by decide +kernel
theorem dL_swapPlates_10 : decode cL_swapPlates 10 = .ok (.goto 15, 3) := by decide +kernel
theorem dL_swapPlates_13 : decode cL_swapPlates 13 = .ok (.astore 4, 2) := by decide +kernel
theorem dL_swapPlates_15 : decode cL_swapPlates 15 = .ok (.iconst 1, 1) := by decide +kernel
theorem dL_swapPlates_16 : decode cL_swapPlates 16 = .ok (.ireturn, 1) := by decide +kernel
theorem dL_swapPlates_17 : decode cL_swapPlates 17 = .ok (.astore 4, 2) := by decide +kernel
theorem dL_swapPlates_19 : decode cL_swapPlates 19 = .ok (.iconst 2, 1) := by decide +kernel
theorem dL_swapPlates_20 : decode cL_swapPlates 20 = .ok (.ireturn, 1) := by decide +kernel
theorem dL_swapPlates_21 : decode cL_swapPlates 21 = .ok (.astore 4, 2) := by decide +kernel
theorem dL_swapPlates_23 : decode cL_swapPlates 23 = .ok (.iconst 3, 1) := by decide +kernel
theorem dL_swapPlates_24 : decode cL_swapPlates 24 = .ok (.ireturn, 1) := by decide +kernel
theorem dL_swapPlates_25 : decode cL_swapPlates 25 = .ok (.iconst 0, 1) := by decide +kernel
theorem dL_swapPlates_26 : decode cL_swapPlates 26 = .ok (.ireturn, 1) := by decide +kernel
theorem dL_plateState_0 : decode cL_plateState 0 = .ok (.aload_n 2, 1) := by decide +kernel
theorem dL_plateState_1 : decode cL_plateState 1 = .ok (.iconst 0, 1) := by decide +kernel
theorem dL_plateState_2 : decode cL_plateState 2 = .ok (.aload_n 0, 1) := by decide +kernel
theorem dL_plateState_3 : decode cL_plateState 3 = .ok (.iload_n 1, 1) := by decide +kernel
theorem dL_plateState_4 : decode cL_plateState 4 = .ok (.invokevirtual 111, 3) := by decide +kernel
theorem dL_plateState_7 : decode cL_plateState 7 = .ok (.i2l, 1) := by decide +kernel
theorem dL_plateState_8 : decode cL_plateState 8 = .ok (.lastore, 1) := by decide +kernel
theorem dL_plateState_9 : decode cL_plateState 9 = .ok (.goto 6, 3) := by decide +kernel
theorem dL_plateState_12 : decode cL_plateState 12 = .ok (.astore_n 3, 1) := by decide +kernel
theorem dL_plateState_13 : decode cL_plateState 13 = .ok (.iconst 1, 1) := by decide +kernel
theorem dL_plateState_14 : decode cL_plateState 14 = .ok (.ireturn, 1) := by decide +kernel
theorem dL_plateState_15 : decode cL_plateState 15 = .ok (.iconst 0, 1) := by decide +kernel
theorem dL_plateState_16 : decode cL_plateState 16 = .ok (.ireturn, 1) := by decide +kernel
theorem dL_daysKept_0 : decode cL_daysKept 0 = .ok (.aload_n 2, 1) := by decide +kernel
theorem dL_daysKept_1 : decode cL_daysKept 1 = .ok (.iconst 0, 1) := by decide +kernel
theorem dL_daysKept_2 : decode cL_daysKept 2 = .ok (.aload_n 0, 1) := by decide +kernel
theorem dL_daysKept_3 : decode cL_daysKept 3 = .ok (.iload_n 1, 1) := by decide +kernel
theorem dL_daysKept_4 : decode cL_daysKept 4 = .ok (.invokevirtual 114, 3) := by decide +kernel
theorem dL_daysKept_7 : decode cL_daysKept 7 = .ok (.i2l, 1) := by decide +kernel
theorem dL_daysKept_8 : decode cL_daysKept 8 = .ok (.lastore, 1) := by decide +kernel
theorem dL_daysKept_9 : decode cL_daysKept 9 = .ok (.goto 9, 3) := by decide +kernel
theorem dL_daysKept_12 : decode cL_daysKept 12 = .ok (.astore_n 3, 1) := by decide +kernel
theorem dL_daysKept_13 : decode cL_daysKept 13 = .ok (.iconst 1, 1) := by decide +kernel
theorem dL_daysKept_14 : decode cL_daysKept 14 = .ok (.ireturn, 1) := by decide +kernel
theorem dL_daysKept_15 : decode cL_daysKept 15 = .ok (.astore_n 3, 1) := by decide +kernel
theorem dL_daysKept_16 : decode cL_daysKept 16 = .ok (.iconst 2, 1) := by decide +kernel
theorem dL_daysKept_17 : decode cL_daysKept 17 = .ok (.ireturn, 1) := by decide +kernel
theorem dL_daysKept_18 : decode cL_daysKept 18 = .ok (.iconst 0, 1) := by decide +kernel
theorem dL_daysKept_19 : decode cL_daysKept 19 = .ok (.ireturn, 1) := by decide +kernel
theorem dL_plateOn_0 : decode cL_plateOn 0 = .ok (.aload_n 3, 1) := by decide +kernel
theorem dL_plateOn_1 : decode cL_plateOn 1 = .ok (.iconst 0, 1) := by decide +kernel
theorem dL_plateOn_2 : decode cL_plateOn 2 = .ok (.aload_n 0, 1) := by decide +kernel
theorem dL_plateOn_3 : decode cL_plateOn 3 = .ok (.iload_n 1, 1) := by decide +kernel
theorem dL_plateOn_4 : decode cL_plateOn 4 = .ok (.iload_n 2, 1) := by decide +kernel
theorem dL_plateOn_5 : decode cL_plateOn 5 = .ok (.invokevirtual 117, 3) := by decide +kernel
theorem dL_plateOn_8 : decode cL_plateOn 8 = .ok (.i2l, 1) := by decide +kernel
theorem dL_plateOn_9 : decode cL_plateOn 9 = .ok (.lastore, 1) := by decide +kernel
theorem dL_plateOn_10 : decode cL_plateOn 10 = .ok (.goto 15, 3) := by decide +kernel
theorem dL_plateOn_13 : decode cL_plateOn 13 = .ok (.astore 4, 2) := by decide +kernel
theorem dL_plateOn_15 : decode cL_plateOn 15 = .ok (.iconst 1, 1) := by decide +kernel
theorem dL_plateOn_16 : decode cL_plateOn 16 = .ok (.ireturn, 1) := by decide +kernel
theorem dL_plateOn_17 : decode cL_plateOn 17 = .ok (.astore 4, 2) := by decide +kernel
theorem dL_plateOn_19 : decode cL_plateOn 19 = .ok (.iconst 2, 1) := by decide +kernel
theorem dL_plateOn_20 : decode cL_plateOn 20 = .ok (.ireturn, 1) := by decide +kernel
theorem dL_plateOn_21 : decode cL_plateOn 21 = .ok (.astore 4, 2) := by decide +kernel
theorem dL_plateOn_23 : decode cL_plateOn 23 = .ok (.iconst 3, 1) := by decide +kernel
theorem dL_plateOn_24 : decode cL_plateOn 24 = .ok (.ireturn, 1) := by decide +kernel
theorem dL_plateOn_25 : decode cL_plateOn 25 = .ok (.iconst 0, 1) := by decide +kernel
theorem dL_plateOn_26 : decode cL_plateOn 26 = .ok (.ireturn, 1) := by decide +kernel
theorem dL_vehicleWith_0 : decode cL_vehicleWith 0 = .ok (.aload_n 3, 1) := by decide +kernel
theorem dL_vehicleWith_1 : decode cL_vehicleWith 1 = .ok (.iconst 0, 1) := by decide +kernel
theorem dL_vehicleWith_2 : decode cL_vehicleWith 2 = .ok (.aload_n 0, 1) := by decide +kernel
theorem dL_vehicleWith_3 : decode cL_vehicleWith 3 = .ok (.iload_n 1, 1) := by decide +kernel
theorem dL_vehicleWith_4 : decode cL_vehicleWith 4 = .ok (.iload_n 2, 1) := by decide +kernel
theorem dL_vehicleWith_5 : decode cL_vehicleWith 5 = .ok (.invokevirtual 120, 3) := by decide +kernel
theorem dL_vehicleWith_8 : decode cL_vehicleWith 8 = .ok (.i2l, 1) := by decide +kernel
theorem dL_vehicleWith_9 : decode cL_vehicleWith 9 = .ok (.lastore, 1) := by decide +kernel
theorem dL_vehicleWith_10 : decode cL_vehicleWith 10 = .ok (.goto 15, 3) := by decide +kernel
theorem dL_vehicleWith_13 : decode cL_vehicleWith 13 = .ok (.astore 4, 2) := by decide +kernel
theorem dL_vehicleWith_15 : decode cL_vehicleWith 15 = .ok (.iconst 1, 1) := by decide +kernel
theorem dL_vehicleWith_16 : decode cL_vehicleWith 16 = .ok (.ireturn, 1) := by decide +kernel
theorem dL_vehicleWith_17 : decode cL_vehicleWith 17 = .ok (.astore 4, 2) := by decide +kernel
theorem dL_vehicleWith_19 : decode cL_vehicleWith 19 = .ok (.iconst 2, 1) := by decide +kernel
theorem dL_vehicleWith_20 : decode cL_vehicleWith 20 = .ok (.ireturn, 1) := by decide +kernel
theorem dL_vehicleWith_21 : decode cL_vehicleWith 21 = .ok (.astore 4, 2) := by decide +kernel
theorem dL_vehicleWith_23 : decode cL_vehicleWith 23 = .ok (.iconst 3, 1) := by decide +kernel
theorem dL_vehicleWith_24 : decode cL_vehicleWith 24 = .ok (.ireturn, 1) := by decide +kernel
theorem dL_vehicleWith_25 : decode cL_vehicleWith 25 = .ok (.iconst 0, 1) := by decide +kernel
theorem dL_vehicleWith_26 : decode cL_vehicleWith 26 = .ok (.ireturn, 1) := by decide +kernel
theorem dL_vehicleByVehicles_0 : decode cL_vehicleByVehicles 0 = .ok (.aload_n 3, 1) := by decide +kernel
theorem dL_vehicleByVehicles_1 : decode cL_vehicleByVehicles 1 = .ok (.iconst 0, 1) := by decide +kernel
theorem dL_vehicleByVehicles_2 : decode cL_vehicleByVehicles 2 = .ok (.aload_n 0, 1) := by decide +kernel
theorem dL_vehicleByVehicles_3 : decode cL_vehicleByVehicles 3 = .ok (.iload_n 1, 1) := by decide +kernel
theorem dL_vehicleByVehicles_4 : decode cL_vehicleByVehicles 4 = .ok (.iload_n 2, 1) := by decide +kernel
theorem dL_vehicleByVehicles_5 : decode cL_vehicleByVehicles 5 = .ok (.invokevirtual 123, 3) := by decide +kernel
theorem dL_vehicleByVehicles_8 : decode cL_vehicleByVehicles 8 = .ok (.i2l, 1) := by decide +kernel
theorem dL_vehicleByVehicles_9 : decode cL_vehicleByVehicles 9 = .ok (.lastore, 1) := by decide +kernel
theorem dL_vehicleByVehicles_10 : decode cL_vehicleByVehicles 10 = .ok (.goto 15, 3) := by decide +kernel
theorem dL_vehicleByVehicles_13 : decode cL_vehicleByVehicles 13 = .ok (.astore 4, 2) := by decide +kernel
theorem dL_vehicleByVehicles_15 : decode cL_vehicleByVehicles 15 = .ok (.iconst 1, 1) := by decide +kernel
theorem dL_vehicleByVehicles_16 : decode cL_vehicleByVehicles 16 = .ok (.ireturn, 1) := by decide +kernel
theorem dL_vehicleByVehicles_17 : decode cL_vehicleByVehicles 17 = .ok (.astore 4, 2) := by decide +kernel
theorem dL_vehicleByVehicles_19 : decode cL_vehicleByVehicles 19 = .ok (.iconst 2, 1) := by decide +kernel
theorem dL_vehicleByVehicles_20 : decode cL_vehicleByVehicles 20 = .ok (.ireturn, 1) := by decide +kernel
theorem dL_vehicleByVehicles_21 : decode cL_vehicleByVehicles 21 = .ok (.astore 4, 2) := by decide +kernel
theorem dL_vehicleByVehicles_23 : decode cL_vehicleByVehicles 23 = .ok (.iconst 3, 1) := by decide +kernel
theorem dL_vehicleByVehicles_24 : decode cL_vehicleByVehicles 24 = .ok (.ireturn, 1) := by decide +kernel
theorem dL_vehicleByVehicles_25 : decode cL_vehicleByVehicles 25 = .ok (.iconst 0, 1) := by decide +kernel
theorem dL_vehicleByVehicles_26 : decode cL_vehicleByVehicles 26 = .ok (.ireturn, 1) := by decide +kernel
theorem dL_due_0 : decode cL_due 0 = .ok (.aload_n 3, 1) := by decide +kernel
theorem dL_due_1 : decode cL_due 1 = .ok (.iconst 0, 1) := by decide +kernel
theorem dL_due_2 : decode cL_due 2 = .ok (.aload_n 0, 1) := by decide +kernel
theorem dL_due_3 : decode cL_due 3 = .ok (.iload_n 1, 1) := by decide +kernel
theorem dL_due_4 : decode cL_due 4 = .ok (.iload_n 2, 1) := by decide +kernel
theorem dL_due_5 : decode cL_due 5 = .ok (.invokevirtual 126, 3) := by decide +kernel
theorem dL_due_8 : decode cL_due 8 = .ok (.i2l, 1) := by decide +kernel
theorem dL_due_9 : decode cL_due 9 = .ok (.lastore, 1) := by decide +kernel
theorem dL_due_10 : decode cL_due 10 = .ok (.goto 11, 3) := by decide +kernel
theorem dL_due_13 : decode cL_due 13 = .ok (.astore 4, 2) := by decide +kernel
theorem dL_due_15 : decode cL_due 15 = .ok (.iconst 1, 1) := by decide +kernel
theorem dL_due_16 : decode cL_due 16 = .ok (.ireturn, 1) := by decide +kernel
theorem dL_due_17 : decode cL_due 17 = .ok (.astore 4, 2) := by decide +kernel
theorem dL_due_19 : decode cL_due 19 = .ok (.iconst 2, 1) := by decide +kernel
theorem dL_due_20 : decode cL_due 20 = .ok (.ireturn, 1) := by decide +kernel
theorem dL_due_21 : decode cL_due 21 = .ok (.iconst 0, 1) := by decide +kernel
theorem dL_due_22 : decode cL_due 22 = .ok (.ireturn, 1) := by decide +kernel
theorem dL_owes_0 : decode cL_owes 0 = .ok (.aload_n 2, 1) := by decide +kernel
theorem dL_owes_1 : decode cL_owes 1 = .ok (.iconst 0, 1) := by decide +kernel
theorem dL_owes_2 : decode cL_owes 2 = .ok (.aload_n 0, 1) := by decide +kernel
theorem dL_owes_3 : decode cL_owes 3 = .ok (.iload_n 1, 1) := by decide +kernel
theorem dL_owes_4 : decode cL_owes 4 = .ok (.invokevirtual 129, 3) := by decide +kernel
theorem dL_owes_7 : decode cL_owes 7 = .ok (.i2l, 1) := by decide +kernel
theorem dL_owes_8 : decode cL_owes 8 = .ok (.lastore, 1) := by decide +kernel
theorem dL_owes_9 : decode cL_owes 9 = .ok (.goto 6, 3) := by decide +kernel
theorem dL_owes_12 : decode cL_owes 12 = .ok (.astore_n 3, 1) := by decide +kernel
theorem dL_owes_13 : decode cL_owes 13 = .ok (.iconst 1, 1) := by decide +kernel
theorem dL_owes_14 : decode cL_owes 14 = .ok (.ireturn, 1) := by decide +kernel
theorem dL_owes_15 : decode cL_owes 15 = .ok (.iconst 0, 1) := by decide +kernel
theorem dL_owes_16 : decode cL_owes 16 = .ok (.ireturn, 1) := by decide +kernel
theorem dL_owesByDays_0 : decode cL_owesByDays 0 = .ok (.aload_n 2, 1) := by decide +kernel
theorem dL_owesByDays_1 : decode cL_owesByDays 1 = .ok (.iconst 0, 1) := by decide +kernel
theorem dL_owesByDays_2 : decode cL_owesByDays 2 = .ok (.aload_n 0, 1) := by decide +kernel
theorem dL_owesByDays_3 : decode cL_owesByDays 3 = .ok (.iload_n 1, 1) := by decide +kernel
theorem dL_owesByDays_4 : decode cL_owesByDays 4 = .ok (.invokevirtual 132, 3) := by decide +kernel
theorem dL_owesByDays_7 : decode cL_owesByDays 7 = .ok (.i2l, 1) := by decide +kernel
theorem dL_owesByDays_8 : decode cL_owesByDays 8 = .ok (.lastore, 1) := by decide +kernel
theorem dL_owesByDays_9 : decode cL_owesByDays 9 = .ok (.goto 6, 3) := by decide +kernel
theorem dL_owesByDays_12 : decode cL_owesByDays 12 = .ok (.astore_n 3, 1) := by decide +kernel
theorem dL_owesByDays_13 : decode cL_owesByDays 13 = .ok (.iconst 1, 1) := by decide +kernel
theorem dL_owesByDays_14 : decode cL_owesByDays 14 = .ok (.ireturn, 1) := by decide +kernel
theorem dL_owesByDays_15 : decode cL_owesByDays 15 = .ok (.iconst 0, 1) := by decide +kernel
theorem dL_owesByDays_16 : decode cL_owesByDays 16 = .ok (.ireturn, 1) := by decide +kernel
theorem dL_pay_0 : decode cL_pay 0 = .ok (.aload_n 3, 1) := by decide +kernel
theorem dL_pay_1 : decode cL_pay 1 = .ok (.iconst 0, 1) := by decide +kernel
theorem dL_pay_2 : decode cL_pay 2 = .ok (.aload_n 0, 1) := by decide +kernel
theorem dL_pay_3 : decode cL_pay 3 = .ok (.iload_n 1, 1) := by decide +kernel
theorem dL_pay_4 : decode cL_pay 4 = .ok (.iload_n 2, 1) := by decide +kernel
theorem dL_pay_5 : decode cL_pay 5 = .ok (.invokevirtual 135, 3) := by decide +kernel
theorem dL_pay_8 : decode cL_pay 8 = .ok (.i2l, 1) := by decide +kernel
theorem dL_pay_9 : decode cL_pay 9 = .ok (.lastore, 1) := by decide +kernel
theorem dL_pay_10 : decode cL_pay 10 = .ok (.goto 11, 3) := by decide +kernel
theorem dL_pay_13 : decode cL_pay 13 = .ok (.astore 4, 2) := by decide +kernel
theorem dL_pay_15 : decode cL_pay 15 = .ok (.iconst 1, 1) := by decide +kernel
theorem dL_pay_16 : decode cL_pay 16 = .ok (.ireturn, 1) := by decide +kernel
theorem dL_pay_17 : decode cL_pay 17 = .ok (.astore 4, 2) := by decide +kernel
theorem dL_pay_19 : decode cL_pay 19 = .ok (.iconst 2, 1) := by decide +kernel
theorem dL_pay_20 : decode cL_pay 20 = .ok (.ireturn, 1) := by decide +kernel
theorem dL_pay_21 : decode cL_pay 21 = .ok (.iconst 0, 1) := by decide +kernel
theorem dL_pay_22 : decode cL_pay 22 = .ok (.ireturn, 1) := by decide +kernel
theorem dL_mostOwing_0 : decode cL_mostOwing 0 = .ok (.aload_n 1, 1) := by decide +kernel
theorem dL_mostOwing_1 : decode cL_mostOwing 1 = .ok (.iconst 0, 1) := by decide +kernel
theorem dL_mostOwing_2 : decode cL_mostOwing 2 = .ok (.aload_n 0, 1) := by decide +kernel
theorem dL_mostOwing_3 : decode cL_mostOwing 3 = .ok (.invokevirtual 138, 3) := by decide +kernel
theorem dL_mostOwing_6 : decode cL_mostOwing 6 = .ok (.i2l, 1) := by decide +kernel
theorem dL_mostOwing_7 : decode cL_mostOwing 7 = .ok (.lastore, 1) := by decide +kernel
theorem dL_mostOwing_8 : decode cL_mostOwing 8 = .ok (.goto 6, 3) := by decide +kernel
theorem dL_mostOwing_11 : decode cL_mostOwing 11 = .ok (.astore_n 2, 1) := by decide +kernel
theorem dL_mostOwing_12 : decode cL_mostOwing 12 = .ok (.iconst 1, 1) := by decide +kernel
theorem dL_mostOwing_13 : decode cL_mostOwing 13 = .ok (.ireturn, 1) := by decide +kernel
theorem dL_mostOwing_14 : decode cL_mostOwing 14 = .ok (.iconst 0, 1) := by decide +kernel
theorem dL_mostOwing_15 : decode cL_mostOwing 15 = .ok (.ireturn, 1) := by decide +kernel
theorem dL_roadShare_0 : decode cL_roadShare 0 = .ok (.aload_n 1, 1) := by decide +kernel
theorem dL_roadShare_1 : decode cL_roadShare 1 = .ok (.iconst 0, 1) := by decide +kernel
theorem dL_roadShare_2 : decode cL_roadShare 2 = .ok (.aload_n 0, 1) := by decide +kernel
theorem dL_roadShare_3 : decode cL_roadShare 3 = .ok (.invokevirtual 141, 3) := by decide +kernel
theorem dL_roadShare_6 : decode cL_roadShare 6 = .ok (.f2d, 1) := by decide +kernel
theorem dL_roadShare_7 : decode cL_roadShare 7 = .ok (.dastore, 1) := by decide +kernel
theorem dL_roadShare_8 : decode cL_roadShare 8 = .ok (.goto 6, 3) := by decide +kernel
theorem dL_roadShare_11 : decode cL_roadShare 11 = .ok (.astore_n 2, 1) := by decide +kernel
theorem dL_roadShare_12 : decode cL_roadShare 12 = .ok (.iconst 1, 1) := by decide +kernel
theorem dL_roadShare_13 : decode cL_roadShare 13 = .ok (.ireturn, 1) := by decide +kernel
theorem dL_roadShare_14 : decode cL_roadShare 14 = .ok (.iconst 0, 1) := by decide +kernel
theorem dL_roadShare_15 : decode cL_roadShare 15 = .ok (.ireturn, 1) := by decide +kernel
theorem dL_meanTransfers_0 : decode cL_meanTransfers 0 = .ok (.aload_n 1, 1) := by decide +kernel
theorem dL_meanTransfers_1 : decode cL_meanTransfers 1 = .ok (.iconst 0, 1) := by decide +kernel
theorem dL_meanTransfers_2 : decode cL_meanTransfers 2 = .ok (.aload_n 0, 1) := by decide +kernel
theorem dL_meanTransfers_3 : decode cL_meanTransfers 3 = .ok (.invokevirtual 147, 3) := by decide +kernel
theorem dL_meanTransfers_6 : decode cL_meanTransfers 6 = .ok (.dastore, 1) := by decide +kernel
theorem dL_meanTransfers_7 : decode cL_meanTransfers 7 = .ok (.goto 6, 3) := by decide +kernel
theorem dL_meanTransfers_10 : decode cL_meanTransfers 10 = .ok (.astore_n 2, 1) := by decide +kernel
theorem dL_meanTransfers_11 : decode cL_meanTransfers 11 = .ok (.iconst 1, 1) := by decide +kernel
theorem dL_meanTransfers_12 : decode cL_meanTransfers 12 = .ok (.ireturn, 1) := by decide +kernel
theorem dL_meanTransfers_13 : decode cL_meanTransfers 13 = .ok (.iconst 0, 1) := by decide +kernel
theorem dL_meanTransfers_14 : decode cL_meanTransfers 14 = .ok (.ireturn, 1) := by decide +kernel
theorem dL_law_0 : decode cL_law 0 = .ok (.new 8, 3) := by decide +kernel
theorem dL_law_3 : decode cL_law 3 = .ok (.dup, 1) := by decide +kernel
theorem dL_law_4 : decode cL_law 4 = .ok (.invokespecial 151, 3) := by decide +kernel
theorem dL_law_7 : decode cL_law 7 = .ok (.astore_n 1, 1) := by decide +kernel
theorem dL_law_8 : decode cL_law 8 = .ok (.new 152, 3) := by decide +kernel
theorem dL_law_11 : decode cL_law 11 = .ok (.dup, 1) := by decide +kernel
theorem dL_law_12 : decode cL_law 12 = .ok (.invokespecial 154, 3) := by decide +kernel
theorem dL_law_15 : decode cL_law 15 = .ok (.astore_n 2, 1) := by decide +kernel
theorem dL_law_16 : decode cL_law 16 = .ok (.iconst 1, 1) := by decide +kernel
theorem dL_law_17 : decode cL_law 17 = .ok (.newarray .long, 2) := by decide +kernel
theorem dL_law_19 : decode cL_law 19 = .ok (.astore_n 3, 1) := by decide +kernel
theorem dL_law_20 : decode cL_law 20 = .ok (.iconst 1, 1) := by decide +kernel
theorem dL_law_21 : decode cL_law 21 = .ok (.newarray .double, 2) := by decide +kernel
theorem dL_law_23 : decode cL_law 23 = .ok (.astore 4, 2) := by decide +kernel
theorem dL_law_25 : decode cL_law 25 = .ok (.iconst 0, 1) := by decide +kernel
theorem dL_law_26 : decode cL_law 26 = .ok (.istore 5, 2) := by decide +kernel
theorem dL_law_28 : decode cL_law 28 = .ok (.iload 5, 2) := by decide +kernel
theorem dL_law_30 : decode cL_law 30 = .ok (.aload_n 0, 1) := by decide +kernel
theorem dL_law_31 : decode cL_law 31 = .ok (.arraylength, 1) := by decide +kernel
theorem dL_law_32 : decode cL_law 32 = .ok (.iconst 5, 1) := by decide +kernel
theorem dL_law_33 : decode cL_law 33 = .ok (.isub, 1) := by decide +kernel
theorem dL_law_34 : decode cL_law 34 = .ok (.if_icmp .gt 2788, 3) := by decide +kernel
theorem dL_law_37 : decode cL_law 37 = .ok (.aload_n 0, 1) := by decide +kernel
theorem dL_law_38 : decode cL_law 38 = .ok (.iload 5, 2) := by decide +kernel
theorem dL_law_40 : decode cL_law 40 = .ok (.iaload, 1) := by decide +kernel
theorem dL_law_41 : decode cL_law 41 = .ok (.bipush 63, 2) := by decide +kernel
theorem dL_law_43 : decode cL_law 43 = .ok (.iand, 1) := by decide +kernel
theorem dL_law_44 : decode cL_law 44 = .ok (.tableswitch 2772 0 43 #[192, 236, 292, 305, 375, 445, 501, 592, 667, 723, 779, 792, 884, 964, 1020, 1076, 1132, 1188, 1256, 1324, 1380, 1448, 1504, 1586, 1668, 1738, 1801, 1857, 1925, 1993, 2049, 2105, 2118, 2186, 2254, 2322, 2390, 2446, 2502, 2570, 2614, 2628, 2694, 2759], 192) := by decide +kernel
theorem dL_law_236 : decode cL_law 236 = .ok (.aload_n 1, 1) := by decide +kernel
theorem dL_law_237 : decode cL_law 237 = .ok (.aload_n 3, 1) := by decide +kernel
theorem dL_law_238 : decode cL_law 238 = .ok (.invokestatic 155, 3) := by decide +kernel
theorem dL_law_241 : decode cL_law 241 = .ok (.istore 6, 2) := by decide +kernel
theorem dL_law_243 : decode cL_law 243 = .ok (.aload_n 2, 1) := by decide +kernel
theorem dL_law_244 : decode cL_law 244 = .ok (.invokevirtual 160, 3) := by decide +kernel
theorem dL_law_247 : decode cL_law 247 = .ok (.istore 7, 2) := by decide +kernel
theorem dL_law_249 : decode cL_law 249 = .ok (.aload_n 2, 1) := by decide +kernel
theorem dL_law_250 : decode cL_law 250 = .ok (.invokevirtual 161, 3) := by decide +kernel
theorem dL_law_253 : decode cL_law 253 = .ok (.iload 6, 2) := by decide +kernel
theorem dL_law_255 : decode cL_law 255 = .ok (.if_icmp .eq 5, 3) := by decide +kernel
theorem dL_law_258 : decode cL_law 258 = .ok (.iconst 0, 1) := by decide +kernel
theorem dL_law_259 : decode cL_law 259 = .ok (.ireturn, 1) := by decide +kernel
theorem dL_law_260 : decode cL_law 260 = .ok (.iload 6, 2) := by decide +kernel
theorem dL_law_262 : decode cL_law 262 = .ok (.ifCond .ne 15, 3) := by decide +kernel
theorem dL_law_265 : decode cL_law 265 = .ok (.aload_n 3, 1) := by decide +kernel
theorem dL_law_266 : decode cL_law 266 = .ok (.iconst 0, 1) := by decide +kernel
theorem dL_law_267 : decode cL_law 267 = .ok (.laload, 1) := by decide +kernel
theorem dL_law_268 : decode cL_law 268 = .ok (.iload 7, 2) := by decide +kernel
theorem dL_law_270 : decode cL_law 270 = .ok (.i2l, 1) := by decide +kernel
theorem dL_law_271 : decode cL_law 271 = .ok (.lcmp, 1) := by decide +kernel
theorem dL_law_272 : decode cL_law 272 = .ok (.ifCond .eq 5, 3) := by decide +kernel
theorem dL_law_275 : decode cL_law 275 = .ok (.iconst 0, 1) := by decide +kernel
theorem dL_law_276 : decode cL_law 276 = .ok (.ireturn, 1) := by decide +kernel
theorem dL_law_277 : decode cL_law 277 = .ok (.goto 2539, 3) := by decide +kernel
theorem dL_law_280 : decode cL_law 280 = .ok (.aload_n 1, 1) := by decide +kernel
theorem dL_law_281 : decode cL_law 281 = .ok (.aload_n 0, 1) := by decide +kernel
theorem dL_law_282 : decode cL_law 282 = .ok (.iload 5, 2) := by decide +kernel
theorem dL_law_284 : decode cL_law 284 = .ok (.iconst 1, 1) := by decide +kernel
theorem dL_law_285 : decode cL_law 285 = .ok (.iadd, 1) := by decide +kernel
theorem dL_law_286 : decode cL_law 286 = .ok (.iaload, 1) := by decide +kernel
theorem dL_law_287 : decode cL_law 287 = .ok (.aload_n 3, 1) := by decide +kernel
theorem dL_law_288 : decode cL_law 288 = .ok (.invokestatic 164, 3) := by decide +kernel
theorem dL_law_291 : decode cL_law 291 = .ok (.istore 6, 2) := by decide +kernel
theorem dL_law_293 : decode cL_law 293 = .ok (.aload_n 2, 1) := by decide +kernel
theorem dL_law_294 : decode cL_law 294 = .ok (.aload_n 0, 1) := by decide +kernel
theorem dL_law_295 : decode cL_law 295 = .ok (.iload 5, 2) := by decide +kernel
theorem dL_law_297 : decode cL_law 297 = .ok (.iconst 1, 1) := by decide +kernel
theorem dL_law_298 : decode cL_law 298 = .ok (.iadd, 1) := by decide +kernel
theorem dL_law_299 : decode cL_law 299 = .ok (.iaload, 1) := by decide +kernel
theorem dL_law_300 : decode cL_law 300 = .ok (.invokevirtual 167, 3) := by decide +kernel
theorem dL_law_303 : decode cL_law 303 = .ok (.istore 7, 2) := by decide +kernel
theorem dL_law_305 : decode cL_law 305 = .ok (.aload_n 2, 1) := by decide +kernel
theorem dL_law_306 : decode cL_law 306 = .ok (.invokevirtual 161, 3) := by decide +kernel
theorem dL_law_309 : decode cL_law 309 = .ok (.iload 6, 2) := by decide +kernel
theorem dL_law_311 : decode cL_law 311 = .ok (.if_icmp .eq 5, 3) := by decide +kernel
theorem dL_law_314 : decode cL_law 314 = .ok (.iconst 0, 1) := by decide +kernel
theorem dL_law_315 : decode cL_law 315 = .ok (.ireturn, 1) := by decide +kernel
theorem dL_law_316 : decode cL_law 316 = .ok (.iload 6, 2) := by decide +kernel
theorem dL_law_318 : decode cL_law 318 = .ok (.ifCond .ne 15, 3) := by decide +kernel
theorem dL_law_321 : decode cL_law 321 = .ok (.aload_n 3, 1) := by decide +kernel
theorem dL_law_322 : decode cL_law 322 = .ok (.iconst 0, 1) := by decide +kernel
theorem dL_law_323 : decode cL_law 323 = .ok (.laload, 1) := by decide +kernel
theorem dL_law_324 : decode cL_law 324 = .ok (.iload 7, 2) := by decide +kernel
theorem dL_law_326 : decode cL_law 326 = .ok (.i2l, 1) := by decide +kernel
theorem dL_law_327 : decode cL_law 327 = .ok (.lcmp, 1) := by decide +kernel
theorem dL_law_328 : decode cL_law 328 = .ok (.ifCond .eq 5, 3) := by decide +kernel
theorem dL_law_331 : decode cL_law 331 = .ok (.iconst 0, 1) := by decide +kernel
theorem dL_law_332 : decode cL_law 332 = .ok (.ireturn, 1) := by decide +kernel
theorem dL_law_333 : decode cL_law 333 = .ok (.goto 2483, 3) := by decide +kernel
theorem dL_law_336 : decode cL_law 336 = .ok (.aload_n 1, 1) := by decide +kernel
theorem dL_law_337 : decode cL_law 337 = .ok (.invokevirtual 168, 3) := by decide +kernel
theorem dL_law_340 : decode cL_law 340 = .ok (.aload_n 2, 1) := by decide +kernel
theorem dL_law_341 : decode cL_law 341 = .ok (.invokevirtual 171, 3) := by decide +kernel
theorem dL_law_344 : decode cL_law 344 = .ok (.if_icmp .eq 2472, 3) := by decide +kernel
theorem dL_law_347 : decode cL_law 347 = .ok (.iconst 0, 1) := by decide +kernel
theorem dL_law_348 : decode cL_law 348 = .ok (.ireturn, 1) := by decide +kernel
theorem dL_law_349 : decode cL_law 349 = .ok (.aload_n 1, 1) := by decide +kernel
theorem dL_law_350 : decode cL_law 350 = .ok (.aload_n 0, 1) := by decide +kernel
theorem dL_law_351 : decode cL_law 351 = .ok (.iload 5, 2) := by decide +kernel
theorem dL_law_353 : decode cL_law 353 = .ok (.iconst 1, 1) := by decide +kernel
theorem dL_law_354 : decode cL_law 354 = .ok (.iadd, 1) := by decide +kernel
theorem dL_law_355 : decode cL_law 355 = .ok (.iaload, 1) := by decide +kernel
theorem dL_law_356 : decode cL_law 356 = .ok (.aload_n 0, 1) := by decide +kernel
theorem dL_law_357 : decode cL_law 357 = .ok (.iload 5, 2) := by decide +kernel
theorem dL_law_359 : decode cL_law 359 = .ok (.iconst 2, 1) := by decide +kernel
theorem dL_law_360 : decode cL_law 360 = .ok (.iadd, 1) := by decide +kernel
theorem dL_law_361 : decode cL_law 361 = .ok (.iaload, 1) := by decide +kernel
theorem dL_law_362 : decode cL_law 362 = .ok (.i2c, 1) := by decide +kernel
theorem dL_law_363 : decode cL_law 363 = .ok (.aload_n 3, 1) := by decide +kernel
theorem dL_law_364 : decode cL_law 364 = .ok (.invokestatic 172, 3) := by decide +kernel
theorem dL_law_367 : decode cL_law 367 = .ok (.istore 6, 2) := by decide +kernel
theorem dL_law_369 : decode cL_law 369 = .ok (.aload_n 2, 1) := by decide +kernel
theorem dL_law_370 : decode cL_law 370 = .ok (.aload_n 0, 1) := by decide +kernel
theorem dL_law_371 : decode cL_law 371 = .ok (.iload 5, 2) := by decide +kernel
theorem dL_law_373 : decode cL_law 373 = .ok (.iconst 1, 1) := by decide +kernel
theorem dL_law_374 : decode cL_law 374 = .ok (.iadd, 1) := by decide +kernel
theorem dL_law_375 : decode cL_law 375 = .ok (.iaload, 1) := by decide +kernel
theorem dL_law_376 : decode cL_law 376 = .ok (.aload_n 0, 1) := by decide +kernel
theorem dL_law_377 : decode cL_law 377 = .ok (.iload 5, 2) := by decide +kernel
theorem dL_law_379 : decode cL_law 379 = .ok (.iconst 2, 1) := by decide +kernel
theorem dL_law_380 : decode cL_law 380 = .ok (.iadd, 1) := by decide +kernel
theorem dL_law_381 : decode cL_law 381 = .ok (.iaload, 1) := by decide +kernel
theorem dL_law_382 : decode cL_law 382 = .ok (.i2c, 1) := by decide +kernel
theorem dL_law_383 : decode cL_law 383 = .ok (.invokevirtual 175, 3) := by decide +kernel
theorem dL_law_386 : decode cL_law 386 = .ok (.istore 7, 2) := by decide +kernel
theorem dL_law_388 : decode cL_law 388 = .ok (.aload_n 2, 1) := by decide +kernel
theorem dL_law_389 : decode cL_law 389 = .ok (.invokevirtual 161, 3) := by decide +kernel
theorem dL_law_392 : decode cL_law 392 = .ok (.iload 6, 2) := by decide +kernel
theorem dL_law_394 : decode cL_law 394 = .ok (.if_icmp .eq 5, 3) := by decide +kernel
theorem dL_law_397 : decode cL_law 397 = .ok (.iconst 0, 1) := by decide +kernel
theorem dL_law_398 : decode cL_law 398 = .ok (.ireturn, 1) := by decide +kernel
theorem dL_law_399 : decode cL_law 399 = .ok (.iload 6, 2) := by decide +kernel
theorem dL_law_401 : decode cL_law 401 = .ok (.ifCond .ne 15, 3) := by decide +kernel
theorem dL_law_404 : decode cL_law 404 = .ok (.aload_n 3, 1) := by decide +kernel
theorem dL_law_405 : decode cL_law 405 = .ok (.iconst 0, 1) := by decide +kernel
theorem dL_law_406 : decode cL_law 406 = .ok (.laload, 1) := by decide +kernel
theorem dL_law_407 : decode cL_law 407 = .ok (.iload 7, 2) := by decide +kernel
theorem dL_law_409 : decode cL_law 409 = .ok (.i2l, 1) := by decide +kernel
theorem dL_law_410 : decode cL_law 410 = .ok (.lcmp, 1) := by decide +kernel
theorem dL_law_411 : decode cL_law 411 = .ok (.ifCond .eq 5, 3) := by decide +kernel
theorem dL_law_414 : decode cL_law 414 = .ok (.iconst 0, 1) := by decide +kernel
theorem dL_law_415 : decode cL_law 415 = .ok (.ireturn, 1) := by decide +kernel
theorem dL_law_416 : decode cL_law 416 = .ok (.goto 2400, 3) := by decide +kernel
theorem dL_law_419 : decode cL_law 419 = .ok (.aload_n 1, 1) := by decide +kernel
theorem dL_law_420 : decode cL_law 420 = .ok (.aload_n 0, 1) := by decide +kernel
theorem dL_law_421 : decode cL_law 421 = .ok (.iload 5, 2) := by decide +kernel
theorem dL_law_423 : decode cL_law 423 = .ok (.iconst 1, 1) := by decide +kernel
theorem dL_law_424 : decode cL_law 424 = .ok (.iadd, 1) := by decide +kernel
theorem dL_law_425 : decode cL_law 425 = .ok (.iaload, 1) := by decide +kernel
theorem dL_law_426 : decode cL_law 426 = .ok (.aload_n 0, 1) := by decide +kernel
theorem dL_law_427 : decode cL_law 427 = .ok (.iload 5, 2) := by decide +kernel
theorem dL_law_429 : decode cL_law 429 = .ok (.iconst 2, 1) := by decide +kernel
theorem dL_law_430 : decode cL_law 430 = .ok (.iadd, 1) := by decide +kernel
theorem dL_law_431 : decode cL_law 431 = .ok (.iaload, 1) := by decide +kernel
theorem dL_law_432 : decode cL_law 432 = .ok (.i2c, 1) := by decide +kernel
theorem dL_law_433 : decode cL_law 433 = .ok (.aload_n 3, 1) := by decide +kernel
theorem dL_law_434 : decode cL_law 434 = .ok (.invokestatic 176, 3) := by decide +kernel
theorem dL_law_437 : decode cL_law 437 = .ok (.istore 6, 2) := by decide +kernel
theorem dL_law_439 : decode cL_law 439 = .ok (.aload_n 2, 1) := by decide +kernel
theorem dL_law_440 : decode cL_law 440 = .ok (.aload_n 0, 1) := by decide +kernel
theorem dL_law_441 : decode cL_law 441 = .ok (.iload 5, 2) := by decide +kernel
theorem dL_law_443 : decode cL_law 443 = .ok (.iconst 1, 1) := by decide +kernel
theorem dL_law_444 : decode cL_law 444 = .ok (.iadd, 1) := by decide +kernel
theorem dL_law_445 : decode cL_law 445 = .ok (.iaload, 1) := by decide +kernel
theorem dL_law_446 : decode cL_law 446 = .ok (.aload_n 0, 1) := by decide +kernel
theorem dL_law_447 : decode cL_law 447 = .ok (.iload 5, 2) := by decide +kernel
theorem dL_law_449 : decode cL_law 449 = .ok (.iconst 2, 1) := by decide +kernel
theorem dL_law_450 : decode cL_law 450 = .ok (.iadd, 1) := by decide +kernel
theorem dL_law_451 : decode cL_law 451 = .ok (.iaload, 1) := by decide +kernel
theorem dL_law_452 : decode cL_law 452 = .ok (.i2c, 1) := by decide +kernel
theorem dL_law_453 : decode cL_law 453 = .ok (.invokevirtual 178, 3) := by decide +kernel
theorem dL_law_456 : decode cL_law 456 = .ok (.istore 7, 2) := by decide +kernel
theorem dL_law_458 : decode cL_law 458 = .ok (.aload_n 2, 1) := by decide +kernel
theorem dL_law_459 : decode cL_law 459 = .ok (.invokevirtual 161, 3) := by decide +kernel
theorem dL_law_462 : decode cL_law 462 = .ok (.iload 6, 2) := by decide +kernel
theorem dL_law_464 : decode cL_law 464 = .ok (.if_icmp .eq 5, 3) := by decide +kernel
theorem dL_law_467 : decode cL_law 467 = .ok (.iconst 0, 1) := by decide +kernel
theorem dL_law_468 : decode cL_law 468 = .ok (.ireturn, 1) := by decide +kernel
theorem dL_law_469 : decode cL_law 469 = .ok (.iload 6, 2) := by decide +kernel
theorem dL_law_471 : decode cL_law 471 = .ok (.ifCond .ne 15, 3) := by decide +kernel
theorem dL_law_474 : decode cL_law 474 = .ok (.aload_n 3, 1) := by decide +kernel
theorem dL_law_475 : decode cL_law 475 = .ok (.iconst 0, 1) := by decide +kernel
theorem dL_law_476 : decode cL_law 476 = .ok (.laload, 1) := by decide +kernel
theorem dL_law_477 : decode cL_law 477 = .ok (.iload 7, 2) := by decide +kernel
theorem dL_law_479 : decode cL_law 479 = .ok (.i2l, 1) := by decide +kernel
theorem dL_law_480 : decode cL_law 480 = .ok (.lcmp, 1) := by decide +kernel
theorem dL_law_481 : decode cL_law 481 = .ok (.ifCond .eq 5, 3) := by decide +kernel
theorem dL_law_484 : decode cL_law 484 = .ok (.iconst 0, 1) := by decide +kernel
theorem dL_law_485 : decode cL_law 485 = .ok (.ireturn, 1) := by decide +kernel
theorem dL_law_486 : decode cL_law 486 = .ok (.goto 2330, 3) := by decide +kernel
theorem dL_law_489 : decode cL_law 489 = .ok (.aload_n 1, 1) := by decide +kernel
theorem dL_law_490 : decode cL_law 490 = .ok (.aload_n 0, 1) := by decide +kernel
theorem dL_law_491 : decode cL_law 491 = .ok (.iload 5, 2) := by decide +kernel
theorem dL_law_493 : decode cL_law 493 = .ok (.iconst 1, 1) := by decide +kernel
theorem dL_law_494 : decode cL_law 494 = .ok (.iadd, 1) := by decide +kernel
theorem dL_law_495 : decode cL_law 495 = .ok (.iaload, 1) := by decide +kernel
theorem dL_law_496 : decode cL_law 496 = .ok (.aload_n 3, 1) := by decide +kernel
theorem dL_law_497 : decode cL_law 497 = .ok (.invokestatic 179, 3) := by decide +kernel
theorem dL_law_500 : decode cL_law 500 = .ok (.istore 6, 2) := by decide +kernel
theorem dL_law_502 : decode cL_law 502 = .ok (.aload_n 2, 1) := by decide +kernel
theorem dL_law_503 : decode cL_law 503 = .ok (.aload_n 0, 1) := by decide +kernel
theorem dL_law_504 : decode cL_law 504 = .ok (.iload 5, 2) := by decide +kernel
theorem dL_law_506 : decode cL_law 506 = .ok (.iconst 1, 1) := by decide +kernel
theorem dL_law_507 : decode cL_law 507 = .ok (.iadd, 1) := by decide +kernel
theorem dL_law_508 : decode cL_law 508 = .ok (.iaload, 1) := by decide +kernel
theorem dL_law_509 : decode cL_law 509 = .ok (.invokevirtual 181, 3) := by decide +kernel
theorem dL_law_512 : decode cL_law 512 = .ok (.istore 7, 2) := by decide +kernel
theorem dL_law_514 : decode cL_law 514 = .ok (.aload_n 2, 1) := by decide +kernel
theorem dL_law_515 : decode cL_law 515 = .ok (.invokevirtual 161, 3) := by decide +kernel
theorem dL_law_518 : decode cL_law 518 = .ok (.iload 6, 2) := by decide +kernel
theorem dL_law_520 : decode cL_law 520 = .ok (.if_icmp .eq 5, 3) := by decide +kernel
theorem dL_law_523 : decode cL_law 523 = .ok (.iconst 0, 1) := by decide +kernel
theorem dL_law_524 : decode cL_law 524 = .ok (.ireturn, 1) := by decide +kernel
theorem dL_law_525 : decode cL_law 525 = .ok (.iload 6, 2) := by decide +kernel
theorem dL_law_527 : decode cL_law 527 = .ok (.ifCond .ne 15, 3) := by decide +kernel
theorem dL_law_530 : decode cL_law 530 = .ok (.aload_n 3, 1) := by decide +kernel
theorem dL_law_531 : decode cL_law 531 = .ok (.iconst 0, 1) := by decide +kernel
theorem dL_law_532 : decode cL_law 532 = .ok (.laload, 1) := by decide +kernel
theorem dL_law_533 : decode cL_law 533 = .ok (.iload 7, 2) := by decide +kernel
theorem dL_law_535 : decode cL_law 535 = .ok (.i2l, 1) := by decide +kernel
theorem dL_law_536 : decode cL_law 536 = .ok (.lcmp, 1) := by decide +kernel
theorem dL_law_537 : decode cL_law 537 = .ok (.ifCond .eq 5, 3) := by decide +kernel
theorem dL_law_540 : decode cL_law 540 = .ok (.iconst 0, 1) := by decide +kernel
theorem dL_law_541 : decode cL_law 541 = .ok (.ireturn, 1) := by decide +kernel
theorem dL_law_542 : decode cL_law 542 = .ok (.goto 2274, 3) := by decide +kernel
theorem dL_law_545 : decode cL_law 545 = .ok (.aload_n 1, 1) := by decide +kernel
theorem dL_law_546 : decode cL_law 546 = .ok (.aload_n 0, 1) := by decide +kernel
theorem dL_law_547 : decode cL_law 547 = .ok (.iload 5, 2) := by decide +kernel
theorem dL_law_549 : decode cL_law 549 = .ok (.iconst 1, 1) := by decide +kernel
theorem dL_law_550 : decode cL_law 550 = .ok (.iadd, 1) := by decide +kernel
theorem dL_law_551 : decode cL_law 551 = .ok (.iaload, 1) := by decide +kernel
theorem dL_law_552 : decode cL_law 552 = .ok (.aload_n 0, 1) := by decide +kernel
theorem dL_law_553 : decode cL_law 553 = .ok (.iload 5, 2) := by decide +kernel
theorem dL_law_555 : decode cL_law 555 = .ok (.iconst 2, 1) := by decide +kernel
theorem dL_law_556 : decode cL_law 556 = .ok (.iadd, 1) := by decide +kernel
theorem dL_law_557 : decode cL_law 557 = .ok (.iaload, 1) := by decide +kernel
theorem dL_law_558 : decode cL_law 558 = .ok (.ifCond .eq 7, 3) := by decide +kernel
theorem dL_law_561 : decode cL_law 561 = .ok (.iconst 1, 1) := by decide +kernel
theorem dL_law_562 : decode cL_law 562 = .ok (.goto 4, 3) := by decide +kernel
theorem dL_law_565 : decode cL_law 565 = .ok (.iconst 0, 1) := by decide +kernel
theorem dL_law_566 : decode cL_law 566 = .ok (.aload_n 3, 1) := by decide +kernel
theorem dL_law_567 : decode cL_law 567 = .ok (.invokestatic 182, 3) := by decide +kernel
theorem dL_law_570 : decode cL_law 570 = .ok (.istore 6, 2) := by decide +kernel
theorem dL_law_572 : decode cL_law 572 = .ok (.aload_n 2, 1) := by decide +kernel
theorem dL_law_573 : decode cL_law 573 = .ok (.aload_n 0, 1) := by decide +kernel
theorem dL_law_574 : decode cL_law 574 = .ok (.iload 5, 2) := by decide +kernel
theorem dL_law_576 : decode cL_law 576 = .ok (.iconst 1, 1) := by decide +kernel
theorem dL_law_577 : decode cL_law 577 = .ok (.iadd, 1) := by decide +kernel
theorem dL_law_578 : decode cL_law 578 = .ok (.iaload, 1) := by decide +kernel
theorem dL_law_579 : decode cL_law 579 = .ok (.aload_n 0, 1) := by decide +kernel
theorem dL_law_580 : decode cL_law 580 = .ok (.iload 5, 2) := by decide +kernel
theorem dL_law_582 : decode cL_law 582 = .ok (.iconst 2, 1) := by decide +kernel
theorem dL_law_583 : decode cL_law 583 = .ok (.iadd, 1) := by decide +kernel
theorem dL_law_584 : decode cL_law 584 = .ok (.iaload, 1) := by decide +kernel
theorem dL_law_585 : decode cL_law 585 = .ok (.ifCond .eq 7, 3) := by decide +kernel
theorem dL_law_588 : decode cL_law 588 = .ok (.iconst 1, 1) := by decide +kernel
theorem dL_law_589 : decode cL_law 589 = .ok (.goto 4, 3) := by decide +kernel
theorem dL_law_592 : decode cL_law 592 = .ok (.iconst 0, 1) := by decide +kernel
theorem dL_law_593 : decode cL_law 593 = .ok (.invokevirtual 185, 3) := by decide +kernel
theorem dL_law_596 : decode cL_law 596 = .ok (.istore 7, 2) := by decide +kernel
theorem dL_law_598 : decode cL_law 598 = .ok (.aload_n 2, 1) := by decide +kernel
theorem dL_law_599 : decode cL_law 599 = .ok (.invokevirtual 161, 3) := by decide +kernel
theorem dL_law_602 : decode cL_law 602 = .ok (.iload 6, 2) := by decide +kernel
theorem dL_law_604 : decode cL_law 604 = .ok (.if_icmp .eq 5, 3) := by decide +kernel
theorem dL_law_607 : decode cL_law 607 = .ok (.iconst 0, 1) := by decide +kernel
theorem dL_law_608 : decode cL_law 608 = .ok (.ireturn, 1) := by decide +kernel
theorem dL_law_609 : decode cL_law 609 = .ok (.iload 6, 2) := by decide +kernel
theorem dL_law_611 : decode cL_law 611 = .ok (.ifCond .ne 22, 3) := by decide +kernel
theorem dL_law_614 : decode cL_law 614 = .ok (.aload_n 3, 1) := by decide +kernel
theorem dL_law_615 : decode cL_law 615 = .ok (.iconst 0, 1) := by decide +kernel
theorem dL_law_616 : decode cL_law 616 = .ok (.laload, 1) := by decide +kernel
theorem dL_law_617 : decode cL_law 617 = .ok (.iload 7, 2) := by decide +kernel
theorem dL_law_619 : decode cL_law 619 = .ok (.ifCond .eq 7, 3) := by decide +kernel
theorem dL_law_622 : decode cL_law 622 = .ok (.lconst 1, 1) := by decide +kernel
theorem dL_law_623 : decode cL_law 623 = .ok (.goto 4, 3) := by decide +kernel
theorem dL_law_626 : decode cL_law 626 = .ok (.lconst 0, 1) := by decide +kernel
theorem dL_law_627 : decode cL_law 627 = .ok (.lcmp, 1) := by decide +kernel
theorem dL_law_628 : decode cL_law 628 = .ok (.ifCond .eq 5, 3) := by decide +kernel
theorem dL_law_631 : decode cL_law 631 = .ok (.iconst 0, 1) := by decide +kernel
theorem dL_law_632 : decode cL_law 632 = .ok (.ireturn, 1) := by decide +kernel
theorem dL_law_633 : decode cL_law 633 = .ok (.goto 2183, 3) := by decide +kernel
theorem dL_law_636 : decode cL_law 636 = .ok (.aload_n 1, 1) := by decide +kernel
theorem dL_law_637 : decode cL_law 637 = .ok (.aload_n 0, 1) := by decide +kernel
theorem dL_law_638 : decode cL_law 638 = .ok (.iload 5, 2) := by decide +kernel
theorem dL_law_640 : decode cL_law 640 = .ok (.iconst 1, 1) := by decide +kernel
theorem dL_law_641 : decode cL_law 641 = .ok (.iadd, 1) := by decide +kernel
theorem dL_law_642 : decode cL_law 642 = .ok (.iaload, 1) := by decide +kernel
theorem dL_law_643 : decode cL_law 643 = .ok (.aload_n 0, 1) := by decide +kernel
theorem dL_law_644 : decode cL_law 644 = .ok (.iload 5, 2) := by decide +kernel
theorem dL_law_646 : decode cL_law 646 = .ok (.iconst 2, 1) := by decide +kernel
theorem dL_law_647 : decode cL_law 647 = .ok (.iadd, 1) := by decide +kernel
theorem dL_law_648 : decode cL_law 648 = .ok (.iaload, 1) := by decide +kernel
theorem dL_law_649 : decode cL_law 649 = .ok (.aload_n 3, 1) := by decide +kernel
theorem dL_law_650 : decode cL_law 650 = .ok (.invokestatic 186, 3) := by decide +kernel
theorem dL_law_653 : decode cL_law 653 = .ok (.istore 6, 2) := by decide +kernel
theorem dL_law_655 : decode cL_law 655 = .ok (.aload_n 2, 1) := by decide +kernel
theorem dL_law_656 : decode cL_law 656 = .ok (.aload_n 0, 1) := by decide +kernel
theorem dL_law_657 : decode cL_law 657 = .ok (.iload 5, 2) := by decide +kernel
theorem dL_law_659 : decode cL_law 659 = .ok (.iconst 1, 1) := by decide +kernel
theorem dL_law_660 : decode cL_law 660 = .ok (.iadd, 1) := by decide +kernel
theorem dL_law_661 : decode cL_law 661 = .ok (.iaload, 1) := by decide +kernel
theorem dL_law_662 : decode cL_law 662 = .ok (.aload_n 0, 1) := by decide +kernel
theorem dL_law_663 : decode cL_law 663 = .ok (.iload 5, 2) := by decide +kernel
theorem dL_law_665 : decode cL_law 665 = .ok (.iconst 2, 1) := by decide +kernel
theorem dL_law_666 : decode cL_law 666 = .ok (.iadd, 1) := by decide +kernel
theorem dL_law_667 : decode cL_law 667 = .ok (.iaload, 1) := by decide +kernel
theorem dL_law_668 : decode cL_law 668 = .ok (.invokevirtual 189, 3) := by decide +kernel
theorem dL_law_671 : decode cL_law 671 = .ok (.istore 7, 2) := by decide +kernel
theorem dL_law_673 : decode cL_law 673 = .ok (.aload_n 2, 1) := by decide +kernel
theorem dL_law_674 : decode cL_law 674 = .ok (.invokevirtual 161, 3) := by decide +kernel
theorem dL_law_677 : decode cL_law 677 = .ok (.iload 6, 2) := by decide +kernel
theorem dL_law_679 : decode cL_law 679 = .ok (.if_icmp .eq 5, 3) := by decide +kernel
theorem dL_law_682 : decode cL_law 682 = .ok (.iconst 0, 1) := by decide +kernel
theorem dL_law_683 : decode cL_law 683 = .ok (.ireturn, 1) := by decide +kernel
theorem dL_law_684 : decode cL_law 684 = .ok (.iload 6, 2) := by decide +kernel
theorem dL_law_686 : decode cL_law 686 = .ok (.ifCond .ne 22, 3) := by decide +kernel
theorem dL_law_689 : decode cL_law 689 = .ok (.aload_n 3, 1) := by decide +kernel
theorem dL_law_690 : decode cL_law 690 = .ok (.iconst 0, 1) := by decide +kernel
theorem dL_law_691 : decode cL_law 691 = .ok (.laload, 1) := by decide +kernel
theorem dL_law_692 : decode cL_law 692 = .ok (.iload 7, 2) := by decide +kernel
theorem dL_law_694 : decode cL_law 694 = .ok (.ifCond .eq 7, 3) := by decide +kernel
theorem dL_law_697 : decode cL_law 697 = .ok (.lconst 1, 1) := by decide +kernel
theorem dL_law_698 : decode cL_law 698 = .ok (.goto 4, 3) := by decide +kernel
theorem dL_law_701 : decode cL_law 701 = .ok (.lconst 0, 1) := by decide +kernel
theorem dL_law_702 : decode cL_law 702 = .ok (.lcmp, 1) := by decide +kernel
theorem dL_law_703 : decode cL_law 703 = .ok (.ifCond .eq 5, 3) := by decide +kernel
theorem dL_law_706 : decode cL_law 706 = .ok (.iconst 0, 1) := by decide +kernel
theorem dL_law_707 : decode cL_law 707 = .ok (.ireturn, 1) := by decide +kernel
theorem dL_law_708 : decode cL_law 708 = .ok (.goto 2108, 3) := by decide +kernel
theorem dL_law_711 : decode cL_law 711 = .ok (.aload_n 1, 1) := by decide +kernel
theorem dL_law_712 : decode cL_law 712 = .ok (.aload_n 0, 1) := by decide +kernel
theorem dL_law_713 : decode cL_law 713 = .ok (.iload 5, 2) := by decide +kernel
theorem dL_law_715 : decode cL_law 715 = .ok (.iconst 1, 1) := by decide +kernel
theorem dL_law_716 : decode cL_law 716 = .ok (.iadd, 1) := by decide +kernel
theorem dL_law_717 : decode cL_law 717 = .ok (.iaload, 1) := by decide +kernel
theorem dL_law_718 : decode cL_law 718 = .ok (.aload_n 3, 1) := by decide +kernel
theorem dL_law_719 : decode cL_law 719 = .ok (.invokestatic 190, 3) := by decide +kernel
theorem dL_law_722 : decode cL_law 722 = .ok (.istore 6, 2) := by decide +kernel
theorem dL_law_724 : decode cL_law 724 = .ok (.aload_n 2, 1) := by decide +kernel
theorem dL_law_725 : decode cL_law 725 = .ok (.aload_n 0, 1) := by decide +kernel
theorem dL_law_726 : decode cL_law 726 = .ok (.iload 5, 2) := by decide +kernel
theorem dL_law_728 : decode cL_law 728 = .ok (.iconst 1, 1) := by decide +kernel
theorem dL_law_729 : decode cL_law 729 = .ok (.iadd, 1) := by decide +kernel
theorem dL_law_730 : decode cL_law 730 = .ok (.iaload, 1) := by decide +kernel
theorem dL_law_731 : decode cL_law 731 = .ok (.invokevirtual 192, 3) := by decide +kernel
theorem dL_law_734 : decode cL_law 734 = .ok (.istore 7, 2) := by decide +kernel
theorem dL_law_736 : decode cL_law 736 = .ok (.aload_n 2, 1) := by decide +kernel
theorem dL_law_737 : decode cL_law 737 = .ok (.invokevirtual 161, 3) := by decide +kernel
theorem dL_law_740 : decode cL_law 740 = .ok (.iload 6, 2) := by decide +kernel
theorem dL_law_742 : decode cL_law 742 = .ok (.if_icmp .eq 5, 3) := by decide +kernel
theorem dL_law_745 : decode cL_law 745 = .ok (.iconst 0, 1) := by decide +kernel
theorem dL_law_746 : decode cL_law 746 = .ok (.ireturn, 1) := by decide +kernel
theorem dL_law_747 : decode cL_law 747 = .ok (.iload 6, 2) := by decide +kernel
theorem dL_law_749 : decode cL_law 749 = .ok (.ifCond .ne 15, 3) := by decide +kernel
theorem dL_law_752 : decode cL_law 752 = .ok (.aload_n 3, 1) := by decide +kernel
theorem dL_law_753 : decode cL_law 753 = .ok (.iconst 0, 1) := by decide +kernel
theorem dL_law_754 : decode cL_law 754 = .ok (.laload, 1) := by decide +kernel
theorem dL_law_755 : decode cL_law 755 = .ok (.iload 7, 2) := by decide +kernel
theorem dL_law_757 : decode cL_law 757 = .ok (.i2l, 1) := by decide +kernel
theorem dL_law_758 : decode cL_law 758 = .ok (.lcmp, 1) := by decide +kernel
theorem dL_law_759 : decode cL_law 759 = .ok (.ifCond .eq 5, 3) := by decide +kernel
theorem dL_law_762 : decode cL_law 762 = .ok (.iconst 0, 1) := by decide +kernel
theorem dL_law_763 : decode cL_law 763 = .ok (.ireturn, 1) := by decide +kernel
theorem dL_law_764 : decode cL_law 764 = .ok (.goto 2052, 3) := by decide +kernel
theorem dL_law_767 : decode cL_law 767 = .ok (.aload_n 1, 1) := by decide +kernel
theorem dL_law_768 : decode cL_law 768 = .ok (.aload_n 0, 1) := by decide +kernel
theorem dL_law_769 : decode cL_law 769 = .ok (.iload 5, 2) := by decide +kernel
theorem dL_law_771 : decode cL_law 771 = .ok (.iconst 1, 1) := by decide +kernel
theorem dL_law_772 : decode cL_law 772 = .ok (.iadd, 1) := by decide +kernel
theorem dL_law_773 : decode cL_law 773 = .ok (.iaload, 1) := by decide +kernel
theorem dL_law_774 : decode cL_law 774 = .ok (.aload_n 3, 1) := by decide +kernel
theorem dL_law_775 : decode cL_law 775 = .ok (.invokestatic 193, 3) := by decide +kernel
theorem dL_law_778 : decode cL_law 778 = .ok (.istore 6, 2) := by decide +kernel
theorem dL_law_780 : decode cL_law 780 = .ok (.aload_n 2, 1) := by decide +kernel
theorem dL_law_781 : decode cL_law 781 = .ok (.aload_n 0, 1) := by decide +kernel
theorem dL_law_782 : decode cL_law 782 = .ok (.iload 5, 2) := by decide +kernel
theorem dL_law_784 : decode cL_law 784 = .ok (.iconst 1, 1) := by decide +kernel
theorem dL_law_785 : decode cL_law 785 = .ok (.iadd, 1) := by decide +kernel
theorem dL_law_786 : decode cL_law 786 = .ok (.iaload, 1) := by decide +kernel
theorem dL_law_787 : decode cL_law 787 = .ok (.invokevirtual 195, 3) := by decide +kernel
theorem dL_law_790 : decode cL_law 790 = .ok (.istore 7, 2) := by decide +kernel
theorem dL_law_792 : decode cL_law 792 = .ok (.aload_n 2, 1) := by decide +kernel
theorem dL_law_793 : decode cL_law 793 = .ok (.invokevirtual 161, 3) := by decide +kernel
theorem dL_law_796 : decode cL_law 796 = .ok (.iload 6, 2) := by decide +kernel
theorem dL_law_798 : decode cL_law 798 = .ok (.if_icmp .eq 5, 3) := by decide +kernel
theorem dL_law_801 : decode cL_law 801 = .ok (.iconst 0, 1) := by decide +kernel
theorem dL_law_802 : decode cL_law 802 = .ok (.ireturn, 1) := by decide +kernel
theorem dL_law_803 : decode cL_law 803 = .ok (.iload 6, 2) := by decide +kernel
theorem dL_law_805 : decode cL_law 805 = .ok (.ifCond .ne 15, 3) := by decide +kernel
theorem dL_law_808 : decode cL_law 808 = .ok (.aload_n 3, 1) := by decide +kernel
theorem dL_law_809 : decode cL_law 809 = .ok (.iconst 0, 1) := by decide +kernel
theorem dL_law_810 : decode cL_law 810 = .ok (.laload, 1) := by decide +kernel
theorem dL_law_811 : decode cL_law 811 = .ok (.iload 7, 2) := by decide +kernel
theorem dL_law_813 : decode cL_law 813 = .ok (.i2l, 1) := by decide +kernel
theorem dL_law_814 : decode cL_law 814 = .ok (.lcmp, 1) := by decide +kernel
theorem dL_law_815 : decode cL_law 815 = .ok (.ifCond .eq 5, 3) := by decide +kernel
theorem dL_law_818 : decode cL_law 818 = .ok (.iconst 0, 1) := by decide +kernel
theorem dL_law_819 : decode cL_law 819 = .ok (.ireturn, 1) := by decide +kernel
theorem dL_law_820 : decode cL_law 820 = .ok (.goto 1996, 3) := by decide +kernel
theorem dL_law_823 : decode cL_law 823 = .ok (.aload_n 1, 1) := by decide +kernel
theorem dL_law_824 : decode cL_law 824 = .ok (.invokevirtual 196, 3) := by decide +kernel
theorem dL_law_827 : decode cL_law 827 = .ok (.aload_n 2, 1) := by decide +kernel
theorem dL_law_828 : decode cL_law 828 = .ok (.invokevirtual 199, 3) := by decide +kernel
theorem dL_law_831 : decode cL_law 831 = .ok (.if_icmp .eq 1985, 3) := by decide +kernel
theorem dL_law_834 : decode cL_law 834 = .ok (.iconst 0, 1) := by decide +kernel
theorem dL_law_835 : decode cL_law 835 = .ok (.ireturn, 1) := by decide +kernel
theorem dL_law_836 : decode cL_law 836 = .ok (.aload_n 1, 1) := by decide +kernel
theorem dL_law_837 : decode cL_law 837 = .ok (.aload_n 0, 1) := by decide +kernel
theorem dL_law_838 : decode cL_law 838 = .ok (.iload 5, 2) := by decide +kernel
theorem dL_law_840 : decode cL_law 840 = .ok (.iconst 1, 1) := by decide +kernel
theorem dL_law_841 : decode cL_law 841 = .ok (.iadd, 1) := by decide +kernel
theorem dL_law_842 : decode cL_law 842 = .ok (.iaload, 1) := by decide +kernel
theorem dL_law_843 : decode cL_law 843 = .ok (.aload_n 0, 1) := by decide +kernel
theorem dL_law_844 : decode cL_law 844 = .ok (.iload 5, 2) := by decide +kernel
theorem dL_law_846 : decode cL_law 846 = .ok (.iconst 2, 1) := by decide +kernel
theorem dL_law_847 : decode cL_law 847 = .ok (.iadd, 1) := by decide +kernel
theorem dL_law_848 : decode cL_law 848 = .ok (.iaload, 1) := by decide +kernel
theorem dL_law_849 : decode cL_law 849 = .ok (.aload_n 0, 1) := by decide +kernel
theorem dL_law_850 : decode cL_law 850 = .ok (.iload 5, 2) := by decide +kernel
theorem dL_law_852 : decode cL_law 852 = .ok (.iconst 3, 1) := by decide +kernel
theorem dL_law_853 : decode cL_law 853 = .ok (.iadd, 1) := by decide +kernel
theorem dL_law_854 : decode cL_law 854 = .ok (.iaload, 1) := by decide +kernel
theorem dL_law_855 : decode cL_law 855 = .ok (.aload_n 0, 1) := by decide +kernel
theorem dL_law_856 : decode cL_law 856 = .ok (.iload 5, 2) := by decide +kernel
theorem dL_law_858 : decode cL_law 858 = .ok (.iconst 4, 1) := by decide +kernel
theorem dL_law_859 : decode cL_law 859 = .ok (.iadd, 1) := by decide +kernel
theorem dL_law_860 : decode cL_law 860 = .ok (.iaload, 1) := by decide +kernel
theorem dL_law_861 : decode cL_law 861 = .ok (.aload_n 3, 1) := by decide +kernel
theorem dL_law_862 : decode cL_law 862 = .ok (.invokestatic 200, 3) := by decide +kernel
theorem dL_law_865 : decode cL_law 865 = .ok (.istore 6, 2) := by decide +kernel
theorem dL_law_867 : decode cL_law 867 = .ok (.aload_n 2, 1) := by decide +kernel
theorem dL_law_868 : decode cL_law 868 = .ok (.aload_n 0, 1) := by decide +kernel
theorem dL_law_869 : decode cL_law 869 = .ok (.iload 5, 2) := by decide +kernel
theorem dL_law_871 : decode cL_law 871 = .ok (.iconst 1, 1) := by decide +kernel
theorem dL_law_872 : decode cL_law 872 = .ok (.iadd, 1) := by decide +kernel
theorem dL_law_873 : decode cL_law 873 = .ok (.iaload, 1) := by decide +kernel
theorem dL_law_874 : decode cL_law 874 = .ok (.aload_n 0, 1) := by decide +kernel
theorem dL_law_875 : decode cL_law 875 = .ok (.iload 5, 2) := by decide +kernel
theorem dL_law_877 : decode cL_law 877 = .ok (.iconst 2, 1) := by decide +kernel
theorem dL_law_878 : decode cL_law 878 = .ok (.iadd, 1) := by decide +kernel
theorem dL_law_879 : decode cL_law 879 = .ok (.iaload, 1) := by decide +kernel
theorem dL_law_880 : decode cL_law 880 = .ok (.aload_n 0, 1) := by decide +kernel
theorem dL_law_881 : decode cL_law 881 = .ok (.iload 5, 2) := by decide +kernel
theorem dL_law_883 : decode cL_law 883 = .ok (.iconst 3, 1) := by decide +kernel
theorem dL_law_884 : decode cL_law 884 = .ok (.iadd, 1) := by decide +kernel
theorem dL_law_885 : decode cL_law 885 = .ok (.iaload, 1) := by decide +kernel
theorem dL_law_886 : decode cL_law 886 = .ok (.aload_n 0, 1) := by decide +kernel
theorem dL_law_887 : decode cL_law 887 = .ok (.iload 5, 2) := by decide +kernel
theorem dL_law_889 : decode cL_law 889 = .ok (.iconst 4, 1) := by decide +kernel
theorem dL_law_890 : decode cL_law 890 = .ok (.iadd, 1) := by decide +kernel
theorem dL_law_891 : decode cL_law 891 = .ok (.iaload, 1) := by decide +kernel
theorem dL_law_892 : decode cL_law 892 = .ok (.invokevirtual 203, 3) := by decide +kernel
theorem dL_law_895 : decode cL_law 895 = .ok (.istore 7, 2) := by decide +kernel
theorem dL_law_897 : decode cL_law 897 = .ok (.aload_n 2, 1) := by decide +kernel
theorem dL_law_898 : decode cL_law 898 = .ok (.invokevirtual 161, 3) := by decide +kernel
theorem dL_law_901 : decode cL_law 901 = .ok (.iload 6, 2) := by decide +kernel
theorem dL_law_903 : decode cL_law 903 = .ok (.if_icmp .eq 5, 3) := by decide +kernel
theorem dL_law_906 : decode cL_law 906 = .ok (.iconst 0, 1) := by decide +kernel
theorem dL_law_907 : decode cL_law 907 = .ok (.ireturn, 1) := by decide +kernel
theorem dL_law_908 : decode cL_law 908 = .ok (.iload 6, 2) := by decide +kernel
theorem dL_law_910 : decode cL_law 910 = .ok (.ifCond .ne 15, 3) := by decide +kernel
theorem dL_law_913 : decode cL_law 913 = .ok (.aload_n 3, 1) := by decide +kernel
theorem dL_law_914 : decode cL_law 914 = .ok (.iconst 0, 1) := by decide +kernel
theorem dL_law_915 : decode cL_law 915 = .ok (.laload, 1) := by decide +kernel
theorem dL_law_916 : decode cL_law 916 = .ok (.iload 7, 2) := by decide +kernel
theorem dL_law_918 : decode cL_law 918 = .ok (.i2l, 1) := by decide +kernel
theorem dL_law_919 : decode cL_law 919 = .ok (.lcmp, 1) := by decide +kernel
theorem dL_law_920 : decode cL_law 920 = .ok (.ifCond .eq 5, 3) := by decide +kernel
theorem dL_law_923 : decode cL_law 923 = .ok (.iconst 0, 1) := by decide +kernel
theorem dL_law_924 : decode cL_law 924 = .ok (.ireturn, 1) := by decide +kernel
theorem dL_law_925 : decode cL_law 925 = .ok (.goto 1891, 3) := by decide +kernel
theorem dL_law_928 : decode cL_law 928 = .ok (.aload_n 1, 1) := by decide +kernel
theorem dL_law_929 : decode cL_law 929 = .ok (.aload_n 0, 1) := by decide +kernel
theorem dL_law_930 : decode cL_law 930 = .ok (.iload 5, 2) := by decide +kernel
theorem dL_law_932 : decode cL_law 932 = .ok (.iconst 1, 1) := by decide +kernel
theorem dL_law_933 : decode cL_law 933 = .ok (.iadd, 1) := by decide +kernel
theorem dL_law_934 : decode cL_law 934 = .ok (.iaload, 1) := by decide +kernel
theorem dL_law_935 : decode cL_law 935 = .ok (.aload_n 0, 1) := by decide +kernel
theorem dL_law_936 : decode cL_law 936 = .ok (.iload 5, 2) := by decide +kernel
theorem dL_law_938 : decode cL_law 938 = .ok (.iconst 2, 1) := by decide +kernel
theorem dL_law_939 : decode cL_law 939 = .ok (.iadd, 1) := by decide +kernel
theorem dL_law_940 : decode cL_law 940 = .ok (.iaload, 1) := by decide +kernel
theorem dL_law_941 : decode cL_law 941 = .ok (.aload_n 0, 1) := by decide +kernel
theorem dL_law_942 : decode cL_law 942 = .ok (.iload 5, 2) := by decide +kernel
theorem dL_law_944 : decode cL_law 944 = .ok (.iconst 3, 1) := by decide +kernel
theorem dL_law_945 : decode cL_law 945 = .ok (.iadd, 1) := by decide +kernel
theorem dL_law_946 : decode cL_law 946 = .ok (.iaload, 1) := by decide +kernel
theorem dL_law_947 : decode cL_law 947 = .ok (.aload_n 3, 1) := by decide +kernel
theorem dL_law_948 : decode cL_law 948 = .ok (.invokestatic 204, 3) := by decide +kernel
theorem dL_law_951 : decode cL_law 951 = .ok (.istore 6, 2) := by decide +kernel
theorem dL_law_953 : decode cL_law 953 = .ok (.aload_n 2, 1) := by decide +kernel
theorem dL_law_954 : decode cL_law 954 = .ok (.aload_n 0, 1) := by decide +kernel
theorem dL_law_955 : decode cL_law 955 = .ok (.iload 5, 2) := by decide +kernel
theorem dL_law_957 : decode cL_law 957 = .ok (.iconst 1, 1) := by decide +kernel
theorem dL_law_958 : decode cL_law 958 = .ok (.iadd, 1) := by decide +kernel
theorem dL_law_959 : decode cL_law 959 = .ok (.iaload, 1) := by decide +kernel
theorem dL_law_960 : decode cL_law 960 = .ok (.aload_n 0, 1) := by decide +kernel
theorem dL_law_961 : decode cL_law 961 = .ok (.iload 5, 2) := by decide +kernel
theorem dL_law_963 : decode cL_law 963 = .ok (.iconst 2, 1) := by decide +kernel
theorem dL_law_964 : decode cL_law 964 = .ok (.iadd, 1) := by decide +kernel
theorem dL_law_965 : decode cL_law 965 = .ok (.iaload, 1) := by decide +kernel
theorem dL_law_966 : decode cL_law 966 = .ok (.aload_n 0, 1) := by decide +kernel
theorem dL_law_967 : decode cL_law 967 = .ok (.iload 5, 2) := by decide +kernel
theorem dL_law_969 : decode cL_law 969 = .ok (.iconst 3, 1) := by decide +kernel
theorem dL_law_970 : decode cL_law 970 = .ok (.iadd, 1) := by decide +kernel
theorem dL_law_971 : decode cL_law 971 = .ok (.iaload, 1) := by decide +kernel
theorem dL_law_972 : decode cL_law 972 = .ok (.invokevirtual 207, 3) := by decide +kernel
theorem dL_law_975 : decode cL_law 975 = .ok (.istore 7, 2) := by decide +kernel
theorem dL_law_977 : decode cL_law 977 = .ok (.aload_n 2, 1) := by decide +kernel
theorem dL_law_978 : decode cL_law 978 = .ok (.invokevirtual 161, 3) := by decide +kernel
theorem dL_law_981 : decode cL_law 981 = .ok (.iload 6, 2) := by decide +kernel
theorem dL_law_983 : decode cL_law 983 = .ok (.if_icmp .eq 5, 3) := by decide +kernel
theorem dL_law_986 : decode cL_law 986 = .ok (.iconst 0, 1) := by decide +kernel
theorem dL_law_987 : decode cL_law 987 = .ok (.ireturn, 1) := by decide +kernel
theorem dL_law_988 : decode cL_law 988 = .ok (.iload 6, 2) := by decide +kernel
theorem dL_law_990 : decode cL_law 990 = .ok (.ifCond .ne 15, 3) := by decide +kernel
theorem dL_law_993 : decode cL_law 993 = .ok (.aload_n 3, 1) := by decide +kernel
theorem dL_law_994 : decode cL_law 994 = .ok (.iconst 0, 1) := by decide +kernel
theorem dL_law_995 : decode cL_law 995 = .ok (.laload, 1) := by decide +kernel
theorem dL_law_996 : decode cL_law 996 = .ok (.iload 7, 2) := by decide +kernel
theorem dL_law_998 : decode cL_law 998 = .ok (.i2l, 1) := by decide +kernel
theorem dL_law_999 : decode cL_law 999 = .ok (.lcmp, 1) := by decide +kernel
theorem dL_law_1000 : decode cL_law 1000 = .ok (.ifCond .eq 5, 3) := by decide +kernel
theorem dL_law_1003 : decode cL_law 1003 = .ok (.iconst 0, 1) := by decide +kernel
theorem dL_law_1004 : decode cL_law 1004 = .ok (.ireturn, 1) := by decide +kernel
theorem dL_law_1005 : decode cL_law 1005 = .ok (.goto 1811, 3) := by decide +kernel
theorem dL_law_1008 : decode cL_law 1008 = .ok (.aload_n 1, 1) := by decide +kernel
theorem dL_law_1009 : decode cL_law 1009 = .ok (.aload_n 0, 1) := by decide +kernel
theorem dL_law_1010 : decode cL_law 1010 = .ok (.iload 5, 2) := by decide +kernel
theorem dL_law_1012 : decode cL_law 1012 = .ok (.iconst 1, 1) := by decide +kernel
theorem dL_law_1013 : decode cL_law 1013 = .ok (.iadd, 1) := by decide +kernel
theorem dL_law_1014 : decode cL_law 1014 = .ok (.iaload, 1) := by decide +kernel
theorem dL_law_1015 : decode cL_law 1015 = .ok (.aload_n 3, 1) := by decide +kernel
theorem dL_law_1016 : decode cL_law 1016 = .ok (.invokestatic 208, 3) := by decide +kernel
theorem dL_law_1019 : decode cL_law 1019 = .ok (.istore 6, 2) := by decide +kernel
theorem dL_law_1021 : decode cL_law 1021 = .ok (.aload_n 2, 1) := by decide +kernel
theorem dL_law_1022 : decode cL_law 1022 = .ok (.aload_n 0, 1) := by decide +kernel
theorem dL_law_1023 : decode cL_law 1023 = .ok (.iload 5, 2) := by decide +kernel
theorem dL_law_1025 : decode cL_law 1025 = .ok (.iconst 1, 1) := by decide +kernel
theorem dL_law_1026 : decode cL_law 1026 = .ok (.iadd, 1) := by decide +kernel
theorem dL_law_1027 : decode cL_law 1027 = .ok (.iaload, 1) := by decide +kernel
theorem dL_law_1028 : decode cL_law 1028 = .ok (.invokevirtual 210, 3) := by decide +kernel
theorem dL_law_1031 : decode cL_law 1031 = .ok (.istore 7, 2) := by decide +kernel
theorem dL_law_1033 : decode cL_law 1033 = .ok (.aload_n 2, 1) := by decide +kernel
theorem dL_law_1034 : decode cL_law 1034 = .ok (.invokevirtual 161, 3) := by decide +kernel
theorem dL_law_1037 : decode cL_law 1037 = .ok (.iload 6, 2) := by decide +kernel
theorem dL_law_1039 : decode cL_law 1039 = .ok (.if_icmp .eq 5, 3) := by decide +kernel
theorem dL_law_1042 : decode cL_law 1042 = .ok (.iconst 0, 1) := by decide +kernel
theorem dL_law_1043 : decode cL_law 1043 = .ok (.ireturn, 1) := by decide +kernel
theorem dL_law_1044 : decode cL_law 1044 = .ok (.iload 6, 2) := by decide +kernel
theorem dL_law_1046 : decode cL_law 1046 = .ok (.ifCond .ne 15, 3) := by decide +kernel
theorem dL_law_1049 : decode cL_law 1049 = .ok (.aload_n 3, 1) := by decide +kernel
theorem dL_law_1050 : decode cL_law 1050 = .ok (.iconst 0, 1) := by decide +kernel
theorem dL_law_1051 : decode cL_law 1051 = .ok (.laload, 1) := by decide +kernel
theorem dL_law_1052 : decode cL_law 1052 = .ok (.iload 7, 2) := by decide +kernel
theorem dL_law_1054 : decode cL_law 1054 = .ok (.i2l, 1) := by decide +kernel
theorem dL_law_1055 : decode cL_law 1055 = .ok (.lcmp, 1) := by decide +kernel
theorem dL_law_1056 : decode cL_law 1056 = .ok (.ifCond .eq 5, 3) := by decide +kernel
theorem dL_law_1059 : decode cL_law 1059 = .ok (.iconst 0, 1) := by decide +kernel
theorem dL_law_1060 : decode cL_law 1060 = .ok (.ireturn, 1) := by decide +kernel
theorem dL_law_1061 : decode cL_law 1061 = .ok (.goto 1755, 3) := by decide +kernel
theorem dL_law_1064 : decode cL_law 1064 = .ok (.aload_n 1, 1) := by decide +kernel
theorem dL_law_1065 : decode cL_law 1065 = .ok (.aload_n 0, 1) := by decide +kernel
theorem dL_law_1066 : decode cL_law 1066 = .ok (.iload 5, 2) := by decide +kernel
theorem dL_law_1068 : decode cL_law 1068 = .ok (.iconst 1, 1) := by decide +kernel
theorem dL_law_1069 : decode cL_law 1069 = .ok (.iadd, 1) := by decide +kernel
theorem dL_law_1070 : decode cL_law 1070 = .ok (.iaload, 1) := by decide +kernel
theorem dL_law_1071 : decode cL_law 1071 = .ok (.aload_n 3, 1) := by decide +kernel
theorem dL_law_1072 : decode cL_law 1072 = .ok (.invokestatic 211, 3) := by decide +kernel
theorem dL_law_1075 : decode cL_law 1075 = .ok (.istore 6, 2) := by decide +kernel
theorem dL_law_1077 : decode cL_law 1077 = .ok (.aload_n 2, 1) := by decide +kernel
theorem dL_law_1078 : decode cL_law 1078 = .ok (.aload_n 0, 1) := by decide +kernel
theorem dL_law_1079 : decode cL_law 1079 = .ok (.iload 5, 2) := by decide +kernel
theorem dL_law_1081 : decode cL_law 1081 = .ok (.iconst 1, 1) := by decide +kernel
theorem dL_law_1082 : decode cL_law 1082 = .ok (.iadd, 1) := by decide +kernel
theorem dL_law_1083 : decode cL_law 1083 = .ok (.iaload, 1) := by decide +kernel
theorem dL_law_1084 : decode cL_law 1084 = .ok (.invokevirtual 213, 3) := by decide +kernel
theorem dL_law_1087 : decode cL_law 1087 = .ok (.istore 7, 2) := by decide +kernel
theorem dL_law_1089 : decode cL_law 1089 = .ok (.aload_n 2, 1) := by decide +kernel
theorem dL_law_1090 : decode cL_law 1090 = .ok (.invokevirtual 161, 3) := by decide +kernel
theorem dL_law_1093 : decode cL_law 1093 = .ok (.iload 6, 2) := by decide +kernel
theorem dL_law_1095 : decode cL_law 1095 = .ok (.if_icmp .eq 5, 3) := by decide +kernel
theorem dL_law_1098 : decode cL_law 1098 = .ok (.iconst 0, 1) := by decide +kernel
theorem dL_law_1099 : decode cL_law 1099 = .ok (.ireturn, 1) := by decide +kernel
theorem dL_law_1100 : decode cL_law 1100 = .ok (.iload 6, 2) := by decide +kernel
theorem dL_law_1102 : decode cL_law 1102 = .ok (.ifCond .ne 15, 3) := by decide +kernel
theorem dL_law_1105 : decode cL_law 1105 = .ok (.aload_n 3, 1) := by decide +kernel
theorem dL_law_1106 : decode cL_law 1106 = .ok (.iconst 0, 1) := by decide +kernel
theorem dL_law_1107 : decode cL_law 1107 = .ok (.laload, 1) := by decide +kernel
theorem dL_law_1108 : decode cL_law 1108 = .ok (.iload 7, 2) := by decide +kernel
theorem dL_law_1110 : decode cL_law 1110 = .ok (.i2l, 1) := by decide +kernel
theorem dL_law_1111 : decode cL_law 1111 = .ok (.lcmp, 1) := by decide +kernel
theorem dL_law_1112 : decode cL_law 1112 = .ok (.ifCond .eq 5, 3) := by decide +kernel
theorem dL_law_1115 : decode cL_law 1115 = .ok (.iconst 0, 1) := by decide +kernel
theorem dL_law_1116 : decode cL_law 1116 = .ok (.ireturn, 1) := by decide +kernel
theorem dL_law_1117 : decode cL_law 1117 = .ok (.goto 1699, 3) := by decide +kernel
theorem dL_law_1120 : decode cL_law 1120 = .ok (.aload_n 1, 1) := by decide +kernel
theorem dL_law_1121 : decode cL_law 1121 = .ok (.aload_n 0, 1) := by decide +kernel
theorem dL_law_1122 : decode cL_law 1122 = .ok (.iload 5, 2) := by decide +kernel
theorem dL_law_1124 : decode cL_law 1124 = .ok (.iconst 1, 1) := by decide +kernel
theorem dL_law_1125 : decode cL_law 1125 = .ok (.iadd, 1) := by decide +kernel
theorem dL_law_1126 : decode cL_law 1126 = .ok (.iaload, 1) := by decide +kernel
theorem dL_law_1127 : decode cL_law 1127 = .ok (.aload_n 3, 1) := by decide +kernel
theorem dL_law_1128 : decode cL_law 1128 = .ok (.invokestatic 214, 3) := by decide +kernel
theorem dL_law_1131 : decode cL_law 1131 = .ok (.istore 6, 2) := by decide +kernel
theorem dL_law_1133 : decode cL_law 1133 = .ok (.aload_n 2, 1) := by decide +kernel
theorem dL_law_1134 : decode cL_law 1134 = .ok (.aload_n 0, 1) := by decide +kernel
theorem dL_law_1135 : decode cL_law 1135 = .ok (.iload 5, 2) := by decide +kernel
theorem dL_law_1137 : decode cL_law 1137 = .ok (.iconst 1, 1) := by decide +kernel
theorem dL_law_1138 : decode cL_law 1138 = .ok (.iadd, 1) := by decide +kernel
theorem dL_law_1139 : decode cL_law 1139 = .ok (.iaload, 1) := by decide +kernel
theorem dL_law_1140 : decode cL_law 1140 = .ok (.invokevirtual 216, 3) := by decide +kernel
theorem dL_law_1143 : decode cL_law 1143 = .ok (.istore 7, 2) := by decide +kernel
theorem dL_law_1145 : decode cL_law 1145 = .ok (.aload_n 2, 1) := by decide +kernel
theorem dL_law_1146 : decode cL_law 1146 = .ok (.invokevirtual 161, 3) := by decide +kernel
theorem dL_law_1149 : decode cL_law 1149 = .ok (.iload 6, 2) := by decide +kernel
theorem dL_law_1151 : decode cL_law 1151 = .ok (.if_icmp .eq 5, 3) := by decide +kernel
theorem dL_law_1154 : decode cL_law 1154 = .ok (.iconst 0, 1) := by decide +kernel
theorem dL_law_1155 : decode cL_law 1155 = .ok (.ireturn, 1) := by decide +kernel
theorem dL_law_1156 : decode cL_law 1156 = .ok (.iload 6, 2) := by decide +kernel
theorem dL_law_1158 : decode cL_law 1158 = .ok (.ifCond .ne 15, 3) := by decide +kernel
theorem dL_law_1161 : decode cL_law 1161 = .ok (.aload_n 3, 1) := by decide +kernel
theorem dL_law_1162 : decode cL_law 1162 = .ok (.iconst 0, 1) := by decide +kernel
theorem dL_law_1163 : decode cL_law 1163 = .ok (.laload, 1) := by decide +kernel
theorem dL_law_1164 : decode cL_law 1164 = .ok (.iload 7, 2) := by decide +kernel
theorem dL_law_1166 : decode cL_law 1166 = .ok (.i2l, 1) := by decide +kernel
theorem dL_law_1167 : decode cL_law 1167 = .ok (.lcmp, 1) := by decide +kernel
theorem dL_law_1168 : decode cL_law 1168 = .ok (.ifCond .eq 5, 3) := by decide +kernel
theorem dL_law_1171 : decode cL_law 1171 = .ok (.iconst 0, 1) := by decide +kernel
theorem dL_law_1172 : decode cL_law 1172 = .ok (.ireturn, 1) := by decide +kernel
theorem dL_law_1173 : decode cL_law 1173 = .ok (.goto 1643, 3) := by decide +kernel
theorem dL_law_1176 : decode cL_law 1176 = .ok (.aload_n 1, 1) := by decide +kernel
theorem dL_law_1177 : decode cL_law 1177 = .ok (.aload_n 0, 1) := by decide +kernel
theorem dL_law_1178 : decode cL_law 1178 = .ok (.iload 5, 2) := by decide +kernel
theorem dL_law_1180 : decode cL_law 1180 = .ok (.iconst 1, 1) := by decide +kernel
theorem dL_law_1181 : decode cL_law 1181 = .ok (.iadd, 1) := by decide +kernel
theorem dL_law_1182 : decode cL_law 1182 = .ok (.iaload, 1) := by decide +kernel
theorem dL_law_1183 : decode cL_law 1183 = .ok (.aload_n 3, 1) := by decide +kernel
theorem dL_law_1184 : decode cL_law 1184 = .ok (.invokestatic 217, 3) := by decide +kernel
theorem dL_law_1187 : decode cL_law 1187 = .ok (.istore 6, 2) := by decide +kernel
theorem dL_law_1189 : decode cL_law 1189 = .ok (.aload_n 2, 1) := by decide +kernel
theorem dL_law_1190 : decode cL_law 1190 = .ok (.aload_n 0, 1) := by decide +kernel
theorem dL_law_1191 : decode cL_law 1191 = .ok (.iload 5, 2) := by decide +kernel
theorem dL_law_1193 : decode cL_law 1193 = .ok (.iconst 1, 1) := by decide +kernel
theorem dL_law_1194 : decode cL_law 1194 = .ok (.iadd, 1) := by decide +kernel
theorem dL_law_1195 : decode cL_law 1195 = .ok (.iaload, 1) := by decide +kernel
theorem dL_law_1196 : decode cL_law 1196 = .ok (.invokevirtual 219, 3) := by decide +kernel
theorem dL_law_1199 : decode cL_law 1199 = .ok (.istore 7, 2) := by decide +kernel
theorem dL_law_1201 : decode cL_law 1201 = .ok (.aload_n 2, 1) := by decide +kernel
theorem dL_law_1202 : decode cL_law 1202 = .ok (.invokevirtual 161, 3) := by decide +kernel
theorem dL_law_1205 : decode cL_law 1205 = .ok (.iload 6, 2) := by decide +kernel
theorem dL_law_1207 : decode cL_law 1207 = .ok (.if_icmp .eq 5, 3) := by decide +kernel
theorem dL_law_1210 : decode cL_law 1210 = .ok (.iconst 0, 1) := by decide +kernel
theorem dL_law_1211 : decode cL_law 1211 = .ok (.ireturn, 1) := by decide +kernel
theorem dL_law_1212 : decode cL_law 1212 = .ok (.iload 6, 2) := by decide +kernel
theorem dL_law_1214 : decode cL_law 1214 = .ok (.ifCond .ne 15, 3) := by decide +kernel
theorem dL_law_1217 : decode cL_law 1217 = .ok (.aload_n 3, 1) := by decide +kernel
theorem dL_law_1218 : decode cL_law 1218 = .ok (.iconst 0, 1) := by decide +kernel
theorem dL_law_1219 : decode cL_law 1219 = .ok (.laload, 1) := by decide +kernel
theorem dL_law_1220 : decode cL_law 1220 = .ok (.iload 7, 2) := by decide +kernel
theorem dL_law_1222 : decode cL_law 1222 = .ok (.i2l, 1) := by decide +kernel
theorem dL_law_1223 : decode cL_law 1223 = .ok (.lcmp, 1) := by decide +kernel
theorem dL_law_1224 : decode cL_law 1224 = .ok (.ifCond .eq 5, 3) := by decide +kernel
theorem dL_law_1227 : decode cL_law 1227 = .ok (.iconst 0, 1) := by decide +kernel
theorem dL_law_1228 : decode cL_law 1228 = .ok (.ireturn, 1) := by decide +kernel
theorem dL_law_1229 : decode cL_law 1229 = .ok (.goto 1587, 3) := by decide +kernel
theorem dL_law_1232 : decode cL_law 1232 = .ok (.aload_n 1, 1) := by decide +kernel
theorem dL_law_1233 : decode cL_law 1233 = .ok (.aload_n 0, 1) := by decide +kernel
theorem dL_law_1234 : decode cL_law 1234 = .ok (.iload 5, 2) := by decide +kernel
theorem dL_law_1236 : decode cL_law 1236 = .ok (.iconst 1, 1) := by decide +kernel
theorem dL_law_1237 : decode cL_law 1237 = .ok (.iadd, 1) := by decide +kernel
theorem dL_law_1238 : decode cL_law 1238 = .ok (.iaload, 1) := by decide +kernel
theorem dL_law_1239 : decode cL_law 1239 = .ok (.aload_n 0, 1) := by decide +kernel
theorem dL_law_1240 : decode cL_law 1240 = .ok (.iload 5, 2) := by decide +kernel
theorem dL_law_1242 : decode cL_law 1242 = .ok (.iconst 2, 1) := by decide +kernel
theorem dL_law_1243 : decode cL_law 1243 = .ok (.iadd, 1) := by decide +kernel
theorem dL_law_1244 : decode cL_law 1244 = .ok (.iaload, 1) := by decide +kernel
theorem dL_law_1245 : decode cL_law 1245 = .ok (.aload_n 3, 1) := by decide +kernel
theorem dL_law_1246 : decode cL_law 1246 = .ok (.invokestatic 220, 3) := by decide +kernel
theorem dL_law_1249 : decode cL_law 1249 = .ok (.istore 6, 2) := by decide +kernel
theorem dL_law_1251 : decode cL_law 1251 = .ok (.aload_n 2, 1) := by decide +kernel
theorem dL_law_1252 : decode cL_law 1252 = .ok (.aload_n 0, 1) := by decide +kernel
theorem dL_law_1253 : decode cL_law 1253 = .ok (.iload 5, 2) := by decide +kernel
theorem dL_law_1255 : decode cL_law 1255 = .ok (.iconst 1, 1) := by decide +kernel
theorem dL_law_1256 : decode cL_law 1256 = .ok (.iadd, 1) := by decide +kernel
theorem dL_law_1257 : decode cL_law 1257 = .ok (.iaload, 1) := by decide +kernel
theorem dL_law_1258 : decode cL_law 1258 = .ok (.aload_n 0, 1) := by decide +kernel
theorem dL_law_1259 : decode cL_law 1259 = .ok (.iload 5, 2) := by decide +kernel
theorem dL_law_1261 : decode cL_law 1261 = .ok (.iconst 2, 1) := by decide +kernel
theorem dL_law_1262 : decode cL_law 1262 = .ok (.iadd, 1) := by decide +kernel
theorem dL_law_1263 : decode cL_law 1263 = .ok (.iaload, 1) := by decide +kernel
theorem dL_law_1264 : decode cL_law 1264 = .ok (.invokevirtual 222, 3) := by decide +kernel
theorem dL_law_1267 : decode cL_law 1267 = .ok (.istore 7, 2) := by decide +kernel
theorem dL_law_1269 : decode cL_law 1269 = .ok (.aload_n 2, 1) := by decide +kernel
theorem dL_law_1270 : decode cL_law 1270 = .ok (.invokevirtual 161, 3) := by decide +kernel
theorem dL_law_1273 : decode cL_law 1273 = .ok (.iload 6, 2) := by decide +kernel
theorem dL_law_1275 : decode cL_law 1275 = .ok (.if_icmp .eq 5, 3) := by decide +kernel
theorem dL_law_1278 : decode cL_law 1278 = .ok (.iconst 0, 1) := by decide +kernel
theorem dL_law_1279 : decode cL_law 1279 = .ok (.ireturn, 1) := by decide +kernel
theorem dL_law_1280 : decode cL_law 1280 = .ok (.iload 6, 2) := by decide +kernel
theorem dL_law_1282 : decode cL_law 1282 = .ok (.ifCond .ne 15, 3) := by decide +kernel
theorem dL_law_1285 : decode cL_law 1285 = .ok (.aload_n 3, 1) := by decide +kernel
theorem dL_law_1286 : decode cL_law 1286 = .ok (.iconst 0, 1) := by decide +kernel
theorem dL_law_1287 : decode cL_law 1287 = .ok (.laload, 1) := by decide +kernel
theorem dL_law_1288 : decode cL_law 1288 = .ok (.iload 7, 2) := by decide +kernel
theorem dL_law_1290 : decode cL_law 1290 = .ok (.i2l, 1) := by decide +kernel
theorem dL_law_1291 : decode cL_law 1291 = .ok (.lcmp, 1) := by decide +kernel
theorem dL_law_1292 : decode cL_law 1292 = .ok (.ifCond .eq 5, 3) := by decide +kernel
theorem dL_law_1295 : decode cL_law 1295 = .ok (.iconst 0, 1) := by decide +kernel
theorem dL_law_1296 : decode cL_law 1296 = .ok (.ireturn, 1) := by decide +kernel
theorem dL_law_1297 : decode cL_law 1297 = .ok (.goto 1519, 3) := by decide +kernel
theorem dL_law_1300 : decode cL_law 1300 = .ok (.aload_n 1, 1) := by decide +kernel
theorem dL_law_1301 : decode cL_law 1301 = .ok (.aload_n 0, 1) := by decide +kernel
theorem dL_law_1302 : decode cL_law 1302 = .ok (.iload 5, 2) := by decide +kernel
theorem dL_law_1304 : decode cL_law 1304 = .ok (.iconst 1, 1) := by decide +kernel
theorem dL_law_1305 : decode cL_law 1305 = .ok (.iadd, 1) := by decide +kernel
theorem dL_law_1306 : decode cL_law 1306 = .ok (.iaload, 1) := by decide +kernel
theorem dL_law_1307 : decode cL_law 1307 = .ok (.aload_n 0, 1) := by decide +kernel
theorem dL_law_1308 : decode cL_law 1308 = .ok (.iload 5, 2) := by decide +kernel
theorem dL_law_1310 : decode cL_law 1310 = .ok (.iconst 2, 1) := by decide +kernel
theorem dL_law_1311 : decode cL_law 1311 = .ok (.iadd, 1) := by decide +kernel
theorem dL_law_1312 : decode cL_law 1312 = .ok (.iaload, 1) := by decide +kernel
theorem dL_law_1313 : decode cL_law 1313 = .ok (.aload_n 3, 1) := by decide +kernel
theorem dL_law_1314 : decode cL_law 1314 = .ok (.invokestatic 223, 3) := by decide +kernel
theorem dL_law_1317 : decode cL_law 1317 = .ok (.istore 6, 2) := by decide +kernel
theorem dL_law_1319 : decode cL_law 1319 = .ok (.aload_n 2, 1) := by decide +kernel
theorem dL_law_1320 : decode cL_law 1320 = .ok (.aload_n 0, 1) := by decide +kernel
theorem dL_law_1321 : decode cL_law 1321 = .ok (.iload 5, 2) := by decide +kernel
theorem dL_law_1323 : decode cL_law 1323 = .ok (.iconst 1, 1) := by decide +kernel
theorem dL_law_1324 : decode cL_law 1324 = .ok (.iadd, 1) := by decide +kernel
theorem dL_law_1325 : decode cL_law 1325 = .ok (.iaload, 1) := by decide +kernel
theorem dL_law_1326 : decode cL_law 1326 = .ok (.aload_n 0, 1) := by decide +kernel
theorem dL_law_1327 : decode cL_law 1327 = .ok (.iload 5, 2) := by decide +kernel
theorem dL_law_1329 : decode cL_law 1329 = .ok (.iconst 2, 1) := by decide +kernel
theorem dL_law_1330 : decode cL_law 1330 = .ok (.iadd, 1) := by decide +kernel
theorem dL_law_1331 : decode cL_law 1331 = .ok (.iaload, 1) := by decide +kernel
theorem dL_law_1332 : decode cL_law 1332 = .ok (.invokevirtual 225, 3) := by decide +kernel
theorem dL_law_1335 : decode cL_law 1335 = .ok (.istore 7, 2) := by decide +kernel
theorem dL_law_1337 : decode cL_law 1337 = .ok (.aload_n 2, 1) := by decide +kernel
theorem dL_law_1338 : decode cL_law 1338 = .ok (.invokevirtual 161, 3) := by decide +kernel
theorem dL_law_1341 : decode cL_law 1341 = .ok (.iload 6, 2) := by decide +kernel
theorem dL_law_1343 : decode cL_law 1343 = .ok (.if_icmp .eq 5, 3) := by decide +kernel
theorem dL_law_1346 : decode cL_law 1346 = .ok (.iconst 0, 1) := by decide +kernel
theorem dL_law_1347 : decode cL_law 1347 = .ok (.ireturn, 1) := by decide +kernel
theorem dL_law_1348 : decode cL_law 1348 = .ok (.iload 6, 2) := by decide +kernel
theorem dL_law_1350 : decode cL_law 1350 = .ok (.ifCond .ne 15, 3) := by decide +kernel
theorem dL_law_1353 : decode cL_law 1353 = .ok (.aload_n 3, 1) := by decide +kernel
theorem dL_law_1354 : decode cL_law 1354 = .ok (.iconst 0, 1) := by decide +kernel
theorem dL_law_1355 : decode cL_law 1355 = .ok (.laload, 1) := by decide +kernel
theorem dL_law_1356 : decode cL_law 1356 = .ok (.iload 7, 2) := by decide +kernel
theorem dL_law_1358 : decode cL_law 1358 = .ok (.i2l, 1) := by decide +kernel
theorem dL_law_1359 : decode cL_law 1359 = .ok (.lcmp, 1) := by decide +kernel
theorem dL_law_1360 : decode cL_law 1360 = .ok (.ifCond .eq 5, 3) := by decide +kernel
theorem dL_law_1363 : decode cL_law 1363 = .ok (.iconst 0, 1) := by decide +kernel
theorem dL_law_1364 : decode cL_law 1364 = .ok (.ireturn, 1) := by decide +kernel
theorem dL_law_1365 : decode cL_law 1365 = .ok (.goto 1451, 3) := by decide +kernel
theorem dL_law_1368 : decode cL_law 1368 = .ok (.aload_n 1, 1) := by decide +kernel
theorem dL_law_1369 : decode cL_law 1369 = .ok (.aload_n 0, 1) := by decide +kernel
theorem dL_law_1370 : decode cL_law 1370 = .ok (.iload 5, 2) := by decide +kernel
theorem dL_law_1372 : decode cL_law 1372 = .ok (.iconst 1, 1) := by decide +kernel
theorem dL_law_1373 : decode cL_law 1373 = .ok (.iadd, 1) := by decide +kernel
theorem dL_law_1374 : decode cL_law 1374 = .ok (.iaload, 1) := by decide +kernel
theorem dL_law_1375 : decode cL_law 1375 = .ok (.aload_n 3, 1) := by decide +kernel
theorem dL_law_1376 : decode cL_law 1376 = .ok (.invokestatic 226, 3) := by decide +kernel
theorem dL_law_1379 : decode cL_law 1379 = .ok (.istore 6, 2) := by decide +kernel
theorem dL_law_1381 : decode cL_law 1381 = .ok (.aload_n 2, 1) := by decide +kernel
theorem dL_law_1382 : decode cL_law 1382 = .ok (.aload_n 0, 1) := by decide +kernel
theorem dL_law_1383 : decode cL_law 1383 = .ok (.iload 5, 2) := by decide +kernel
theorem dL_law_1385 : decode cL_law 1385 = .ok (.iconst 1, 1) := by decide +kernel
theorem dL_law_1386 : decode cL_law 1386 = .ok (.iadd, 1) := by decide +kernel
theorem dL_law_1387 : decode cL_law 1387 = .ok (.iaload, 1) := by decide +kernel
theorem dL_law_1388 : decode cL_law 1388 = .ok (.invokevirtual 228, 3) := by decide +kernel
theorem dL_law_1391 : decode cL_law 1391 = .ok (.istore 7, 2) := by decide +kernel
theorem dL_law_1393 : decode cL_law 1393 = .ok (.aload_n 2, 1) := by decide +kernel
theorem dL_law_1394 : decode cL_law 1394 = .ok (.invokevirtual 161, 3) := by decide +kernel
theorem dL_law_1397 : decode cL_law 1397 = .ok (.iload 6, 2) := by decide +kernel
theorem dL_law_1399 : decode cL_law 1399 = .ok (.if_icmp .eq 5, 3) := by decide +kernel
theorem dL_law_1402 : decode cL_law 1402 = .ok (.iconst 0, 1) := by decide +kernel
theorem dL_law_1403 : decode cL_law 1403 = .ok (.ireturn, 1) := by decide +kernel
theorem dL_law_1404 : decode cL_law 1404 = .ok (.iload 6, 2) := by decide +kernel
theorem dL_law_1406 : decode cL_law 1406 = .ok (.ifCond .ne 15, 3) := by decide +kernel
theorem dL_law_1409 : decode cL_law 1409 = .ok (.aload_n 3, 1) := by decide +kernel
theorem dL_law_1410 : decode cL_law 1410 = .ok (.iconst 0, 1) := by decide +kernel
theorem dL_law_1411 : decode cL_law 1411 = .ok (.laload, 1) := by decide +kernel
theorem dL_law_1412 : decode cL_law 1412 = .ok (.iload 7, 2) := by decide +kernel
theorem dL_law_1414 : decode cL_law 1414 = .ok (.i2l, 1) := by decide +kernel
theorem dL_law_1415 : decode cL_law 1415 = .ok (.lcmp, 1) := by decide +kernel
theorem dL_law_1416 : decode cL_law 1416 = .ok (.ifCond .eq 5, 3) := by decide +kernel
theorem dL_law_1419 : decode cL_law 1419 = .ok (.iconst 0, 1) := by decide +kernel
theorem dL_law_1420 : decode cL_law 1420 = .ok (.ireturn, 1) := by decide +kernel
theorem dL_law_1421 : decode cL_law 1421 = .ok (.goto 1395, 3) := by decide +kernel
theorem dL_law_1424 : decode cL_law 1424 = .ok (.aload_n 1, 1) := by decide +kernel
theorem dL_law_1425 : decode cL_law 1425 = .ok (.aload_n 0, 1) := by decide +kernel
theorem dL_law_1426 : decode cL_law 1426 = .ok (.iload 5, 2) := by decide +kernel
theorem dL_law_1428 : decode cL_law 1428 = .ok (.iconst 1, 1) := by decide +kernel
theorem dL_law_1429 : decode cL_law 1429 = .ok (.iadd, 1) := by decide +kernel
theorem dL_law_1430 : decode cL_law 1430 = .ok (.iaload, 1) := by decide +kernel
theorem dL_law_1431 : decode cL_law 1431 = .ok (.aload_n 0, 1) := by decide +kernel
theorem dL_law_1432 : decode cL_law 1432 = .ok (.iload 5, 2) := by decide +kernel
theorem dL_law_1434 : decode cL_law 1434 = .ok (.iconst 2, 1) := by decide +kernel
theorem dL_law_1435 : decode cL_law 1435 = .ok (.iadd, 1) := by decide +kernel
theorem dL_law_1436 : decode cL_law 1436 = .ok (.iaload, 1) := by decide +kernel
theorem dL_law_1437 : decode cL_law 1437 = .ok (.aload_n 3, 1) := by decide +kernel
theorem dL_law_1438 : decode cL_law 1438 = .ok (.invokestatic 229, 3) := by decide +kernel
theorem dL_law_1441 : decode cL_law 1441 = .ok (.istore 6, 2) := by decide +kernel
theorem dL_law_1443 : decode cL_law 1443 = .ok (.aload_n 2, 1) := by decide +kernel
theorem dL_law_1444 : decode cL_law 1444 = .ok (.aload_n 0, 1) := by decide +kernel
theorem dL_law_1445 : decode cL_law 1445 = .ok (.iload 5, 2) := by decide +kernel
theorem dL_law_1447 : decode cL_law 1447 = .ok (.iconst 1, 1) := by decide +kernel
theorem dL_law_1448 : decode cL_law 1448 = .ok (.iadd, 1) := by decide +kernel
theorem dL_law_1449 : decode cL_law 1449 = .ok (.iaload, 1) := by decide +kernel
theorem dL_law_1450 : decode cL_law 1450 = .ok (.aload_n 0, 1) := by decide +kernel
theorem dL_law_1451 : decode cL_law 1451 = .ok (.iload 5, 2) := by decide +kernel
theorem dL_law_1453 : decode cL_law 1453 = .ok (.iconst 2, 1) := by decide +kernel
theorem dL_law_1454 : decode cL_law 1454 = .ok (.iadd, 1) := by decide +kernel
theorem dL_law_1455 : decode cL_law 1455 = .ok (.iaload, 1) := by decide +kernel
theorem dL_law_1456 : decode cL_law 1456 = .ok (.invokevirtual 231, 3) := by decide +kernel
theorem dL_law_1459 : decode cL_law 1459 = .ok (.istore 7, 2) := by decide +kernel
theorem dL_law_1461 : decode cL_law 1461 = .ok (.aload_n 2, 1) := by decide +kernel
theorem dL_law_1462 : decode cL_law 1462 = .ok (.invokevirtual 161, 3) := by decide +kernel
theorem dL_law_1465 : decode cL_law 1465 = .ok (.iload 6, 2) := by decide +kernel
theorem dL_law_1467 : decode cL_law 1467 = .ok (.if_icmp .eq 5, 3) := by decide +kernel
theorem dL_law_1470 : decode cL_law 1470 = .ok (.iconst 0, 1) := by decide +kernel
theorem dL_law_1471 : decode cL_law 1471 = .ok (.ireturn, 1) := by decide +kernel
theorem dL_law_1472 : decode cL_law 1472 = .ok (.iload 6, 2) := by decide +kernel
theorem dL_law_1474 : decode cL_law 1474 = .ok (.ifCond .ne 15, 3) := by decide +kernel
theorem dL_law_1477 : decode cL_law 1477 = .ok (.aload_n 3, 1) := by decide +kernel
theorem dL_law_1478 : decode cL_law 1478 = .ok (.iconst 0, 1) := by decide +kernel
theorem dL_law_1479 : decode cL_law 1479 = .ok (.laload, 1) := by decide +kernel
theorem dL_law_1480 : decode cL_law 1480 = .ok (.iload 7, 2) := by decide +kernel
theorem dL_law_1482 : decode cL_law 1482 = .ok (.i2l, 1) := by decide +kernel
theorem dL_law_1483 : decode cL_law 1483 = .ok (.lcmp, 1) := by decide +kernel
theorem dL_law_1484 : decode cL_law 1484 = .ok (.ifCond .eq 5, 3) := by decide +kernel
theorem dL_law_1487 : decode cL_law 1487 = .ok (.iconst 0, 1) := by decide +kernel
theorem dL_law_1488 : decode cL_law 1488 = .ok (.ireturn, 1) := by decide +kernel
theorem dL_law_1489 : decode cL_law 1489 = .ok (.goto 1327, 3) := by decide +kernel
theorem dL_law_1492 : decode cL_law 1492 = .ok (.aload_n 1, 1) := by decide +kernel
theorem dL_law_1493 : decode cL_law 1493 = .ok (.aload_n 0, 1) := by decide +kernel
theorem dL_law_1494 : decode cL_law 1494 = .ok (.iload 5, 2) := by decide +kernel
theorem dL_law_1496 : decode cL_law 1496 = .ok (.iconst 1, 1) := by decide +kernel
theorem dL_law_1497 : decode cL_law 1497 = .ok (.iadd, 1) := by decide +kernel
theorem dL_law_1498 : decode cL_law 1498 = .ok (.iaload, 1) := by decide +kernel
theorem dL_law_1499 : decode cL_law 1499 = .ok (.aload_n 3, 1) := by decide +kernel
theorem dL_law_1500 : decode cL_law 1500 = .ok (.invokestatic 232, 3) := by decide +kernel
theorem dL_law_1503 : decode cL_law 1503 = .ok (.istore 6, 2) := by decide +kernel
theorem dL_law_1505 : decode cL_law 1505 = .ok (.aload_n 2, 1) := by decide +kernel
theorem dL_law_1506 : decode cL_law 1506 = .ok (.aload_n 0, 1) := by decide +kernel
theorem dL_law_1507 : decode cL_law 1507 = .ok (.iload 5, 2) := by decide +kernel
theorem dL_law_1509 : decode cL_law 1509 = .ok (.iconst 1, 1) := by decide +kernel
theorem dL_law_1510 : decode cL_law 1510 = .ok (.iadd, 1) := by decide +kernel
theorem dL_law_1511 : decode cL_law 1511 = .ok (.iaload, 1) := by decide +kernel
theorem dL_law_1512 : decode cL_law 1512 = .ok (.invokevirtual 234, 3) := by decide +kernel
theorem dL_law_1515 : decode cL_law 1515 = .ok (.istore 7, 2) := by decide +kernel
theorem dL_law_1517 : decode cL_law 1517 = .ok (.aload_n 2, 1) := by decide +kernel
theorem dL_law_1518 : decode cL_law 1518 = .ok (.invokevirtual 161, 3) := by decide +kernel
theorem dL_law_1521 : decode cL_law 1521 = .ok (.iload 6, 2) := by decide +kernel
theorem dL_law_1523 : decode cL_law 1523 = .ok (.if_icmp .eq 5, 3) := by decide +kernel
theorem dL_law_1526 : decode cL_law 1526 = .ok (.iconst 0, 1) := by decide +kernel
theorem dL_law_1527 : decode cL_law 1527 = .ok (.ireturn, 1) := by decide +kernel
theorem dL_law_1528 : decode cL_law 1528 = .ok (.iload 6, 2) := by decide +kernel
theorem dL_law_1530 : decode cL_law 1530 = .ok (.ifCond .ne 15, 3) := by decide +kernel
theorem dL_law_1533 : decode cL_law 1533 = .ok (.aload_n 3, 1) := by decide +kernel
theorem dL_law_1534 : decode cL_law 1534 = .ok (.iconst 0, 1) := by decide +kernel
theorem dL_law_1535 : decode cL_law 1535 = .ok (.laload, 1) := by decide +kernel
theorem dL_law_1536 : decode cL_law 1536 = .ok (.iload 7, 2) := by decide +kernel
theorem dL_law_1538 : decode cL_law 1538 = .ok (.i2l, 1) := by decide +kernel
theorem dL_law_1539 : decode cL_law 1539 = .ok (.lcmp, 1) := by decide +kernel
theorem dL_law_1540 : decode cL_law 1540 = .ok (.ifCond .eq 5, 3) := by decide +kernel
theorem dL_law_1543 : decode cL_law 1543 = .ok (.iconst 0, 1) := by decide +kernel
theorem dL_law_1544 : decode cL_law 1544 = .ok (.ireturn, 1) := by decide +kernel
theorem dL_law_1545 : decode cL_law 1545 = .ok (.goto 1271, 3) := by decide +kernel
theorem dL_law_1548 : decode cL_law 1548 = .ok (.aload_n 1, 1) := by decide +kernel
theorem dL_law_1549 : decode cL_law 1549 = .ok (.aload_n 0, 1) := by decide +kernel
theorem dL_law_1550 : decode cL_law 1550 = .ok (.iload 5, 2) := by decide +kernel
theorem dL_law_1552 : decode cL_law 1552 = .ok (.iconst 1, 1) := by decide +kernel
theorem dL_law_1553 : decode cL_law 1553 = .ok (.iadd, 1) := by decide +kernel
theorem dL_law_1554 : decode cL_law 1554 = .ok (.iaload, 1) := by decide +kernel
theorem dL_law_1555 : decode cL_law 1555 = .ok (.aload_n 0, 1) := by decide +kernel
theorem dL_law_1556 : decode cL_law 1556 = .ok (.iload 5, 2) := by decide +kernel
theorem dL_law_1558 : decode cL_law 1558 = .ok (.iconst 2, 1) := by decide +kernel
theorem dL_law_1559 : decode cL_law 1559 = .ok (.iadd, 1) := by decide +kernel
theorem dL_law_1560 : decode cL_law 1560 = .ok (.iaload, 1) := by decide +kernel
theorem dL_law_1561 : decode cL_law 1561 = .ok (.i2c, 1) := by decide +kernel
theorem dL_law_1562 : decode cL_law 1562 = .ok (.aload_n 0, 1) := by decide +kernel
theorem dL_law_1563 : decode cL_law 1563 = .ok (.iload 5, 2) := by decide +kernel
theorem dL_law_1565 : decode cL_law 1565 = .ok (.iconst 3, 1) := by decide +kernel
theorem dL_law_1566 : decode cL_law 1566 = .ok (.iadd, 1) := by decide +kernel
theorem dL_law_1567 : decode cL_law 1567 = .ok (.iaload, 1) := by decide +kernel
theorem dL_law_1568 : decode cL_law 1568 = .ok (.aload_n 3, 1) := by decide +kernel
theorem dL_law_1569 : decode cL_law 1569 = .ok (.invokestatic 235, 3) := by decide +kernel
theorem dL_law_1572 : decode cL_law 1572 = .ok (.istore 6, 2) := by decide +kernel
theorem dL_law_1574 : decode cL_law 1574 = .ok (.aload_n 2, 1) := by decide +kernel
theorem dL_law_1575 : decode cL_law 1575 = .ok (.aload_n 0, 1) := by decide +kernel
theorem dL_law_1576 : decode cL_law 1576 = .ok (.iload 5, 2) := by decide +kernel
theorem dL_law_1578 : decode cL_law 1578 = .ok (.iconst 1, 1) := by decide +kernel
theorem dL_law_1579 : decode cL_law 1579 = .ok (.iadd, 1) := by decide +kernel
theorem dL_law_1580 : decode cL_law 1580 = .ok (.iaload, 1) := by decide +kernel
theorem dL_law_1581 : decode cL_law 1581 = .ok (.aload_n 0, 1) := by decide +kernel
theorem dL_law_1582 : decode cL_law 1582 = .ok (.iload 5, 2) := by decide +kernel
theorem dL_law_1584 : decode cL_law 1584 = .ok (.iconst 2, 1) := by decide +kernel
theorem dL_law_1585 : decode cL_law 1585 = .ok (.iadd, 1) := by decide +kernel
theorem dL_law_1586 : decode cL_law 1586 = .ok (.iaload, 1) := by decide +kernel
theorem dL_law_1587 : decode cL_law 1587 = .ok (.i2c, 1) := by decide +kernel
theorem dL_law_1588 : decode cL_law 1588 = .ok (.aload_n 0, 1) := by decide +kernel
theorem dL_law_1589 : decode cL_law 1589 = .ok (.iload 5, 2) := by decide +kernel
theorem dL_law_1591 : decode cL_law 1591 = .ok (.iconst 3, 1) := by decide +kernel
theorem dL_law_1592 : decode cL_law 1592 = .ok (.iadd, 1) := by decide +kernel
theorem dL_law_1593 : decode cL_law 1593 = .ok (.iaload, 1) := by decide +kernel
theorem dL_law_1594 : decode cL_law 1594 = .ok (.invokevirtual 238, 3) := by decide +kernel
theorem dL_law_1597 : decode cL_law 1597 = .ok (.istore 7, 2) := by decide +kernel
theorem dL_law_1599 : decode cL_law 1599 = .ok (.aload_n 2, 1) := by decide +kernel
theorem dL_law_1600 : decode cL_law 1600 = .ok (.invokevirtual 161, 3) := by decide +kernel
theorem dL_law_1603 : decode cL_law 1603 = .ok (.iload 6, 2) := by decide +kernel
theorem dL_law_1605 : decode cL_law 1605 = .ok (.if_icmp .eq 5, 3) := by decide +kernel
theorem dL_law_1608 : decode cL_law 1608 = .ok (.iconst 0, 1) := by decide +kernel
theorem dL_law_1609 : decode cL_law 1609 = .ok (.ireturn, 1) := by decide +kernel
theorem dL_law_1610 : decode cL_law 1610 = .ok (.iload 6, 2) := by decide +kernel
theorem dL_law_1612 : decode cL_law 1612 = .ok (.ifCond .ne 15, 3) := by decide +kernel
theorem dL_law_1615 : decode cL_law 1615 = .ok (.aload_n 3, 1) := by decide +kernel
theorem dL_law_1616 : decode cL_law 1616 = .ok (.iconst 0, 1) := by decide +kernel
theorem dL_law_1617 : decode cL_law 1617 = .ok (.laload, 1) := by decide +kernel
theorem dL_law_1618 : decode cL_law 1618 = .ok (.iload 7, 2) := by decide +kernel
theorem dL_law_1620 : decode cL_law 1620 = .ok (.i2l, 1) := by decide +kernel
theorem dL_law_1621 : decode cL_law 1621 = .ok (.lcmp, 1) := by decide +kernel
theorem dL_law_1622 : decode cL_law 1622 = .ok (.ifCond .eq 5, 3) := by decide +kernel
theorem dL_law_1625 : decode cL_law 1625 = .ok (.iconst 0, 1) := by decide +kernel
theorem dL_law_1626 : decode cL_law 1626 = .ok (.ireturn, 1) := by decide +kernel
theorem dL_law_1627 : decode cL_law 1627 = .ok (.goto 1189, 3) := by decide +kernel
theorem dL_law_1630 : decode cL_law 1630 = .ok (.aload_n 1, 1) := by decide +kernel
theorem dL_law_1631 : decode cL_law 1631 = .ok (.aload_n 0, 1) := by decide +kernel
theorem dL_law_1632 : decode cL_law 1632 = .ok (.iload 5, 2) := by decide +kernel
theorem dL_law_1634 : decode cL_law 1634 = .ok (.iconst 1, 1) := by decide +kernel
theorem dL_law_1635 : decode cL_law 1635 = .ok (.iadd, 1) := by decide +kernel
theorem dL_law_1636 : decode cL_law 1636 = .ok (.iaload, 1) := by decide +kernel
theorem dL_law_1637 : decode cL_law 1637 = .ok (.aload_n 0, 1) := by decide +kernel
theorem dL_law_1638 : decode cL_law 1638 = .ok (.iload 5, 2) := by decide +kernel
theorem dL_law_1640 : decode cL_law 1640 = .ok (.iconst 2, 1) := by decide +kernel
theorem dL_law_1641 : decode cL_law 1641 = .ok (.iadd, 1) := by decide +kernel
theorem dL_law_1642 : decode cL_law 1642 = .ok (.iaload, 1) := by decide +kernel
theorem dL_law_1643 : decode cL_law 1643 = .ok (.i2c, 1) := by decide +kernel
theorem dL_law_1644 : decode cL_law 1644 = .ok (.aload_n 0, 1) := by decide +kernel
theorem dL_law_1645 : decode cL_law 1645 = .ok (.iload 5, 2) := by decide +kernel
theorem dL_law_1647 : decode cL_law 1647 = .ok (.iconst 3, 1) := by decide +kernel
theorem dL_law_1648 : decode cL_law 1648 = .ok (.iadd, 1) := by decide +kernel
theorem dL_law_1649 : decode cL_law 1649 = .ok (.iaload, 1) := by decide +kernel
theorem dL_law_1650 : decode cL_law 1650 = .ok (.aload_n 3, 1) := by decide +kernel
theorem dL_law_1651 : decode cL_law 1651 = .ok (.invokestatic 239, 3) := by decide +kernel
theorem dL_law_1654 : decode cL_law 1654 = .ok (.istore 6, 2) := by decide +kernel
theorem dL_law_1656 : decode cL_law 1656 = .ok (.aload_n 2, 1) := by decide +kernel
theorem dL_law_1657 : decode cL_law 1657 = .ok (.aload_n 0, 1) := by decide +kernel
theorem dL_law_1658 : decode cL_law 1658 = .ok (.iload 5, 2) := by decide +kernel
theorem dL_law_1660 : decode cL_law 1660 = .ok (.iconst 1, 1) := by decide +kernel
theorem dL_law_1661 : decode cL_law 1661 = .ok (.iadd, 1) := by decide +kernel
theorem dL_law_1662 : decode cL_law 1662 = .ok (.iaload, 1) := by decide +kernel
theorem dL_law_1663 : decode cL_law 1663 = .ok (.aload_n 0, 1) := by decide +kernel
theorem dL_law_1664 : decode cL_law 1664 = .ok (.iload 5, 2) := by decide +kernel
theorem dL_law_1666 : decode cL_law 1666 = .ok (.iconst 2, 1) := by decide +kernel
theorem dL_law_1667 : decode cL_law 1667 = .ok (.iadd, 1) := by decide +kernel
theorem dL_law_1668 : decode cL_law 1668 = .ok (.iaload, 1) := by decide +kernel
theorem dL_law_1669 : decode cL_law 1669 = .ok (.i2c, 1) := by decide +kernel
theorem dL_law_1670 : decode cL_law 1670 = .ok (.aload_n 0, 1) := by decide +kernel
theorem dL_law_1671 : decode cL_law 1671 = .ok (.iload 5, 2) := by decide +kernel
theorem dL_law_1673 : decode cL_law 1673 = .ok (.iconst 3, 1) := by decide +kernel
theorem dL_law_1674 : decode cL_law 1674 = .ok (.iadd, 1) := by decide +kernel
theorem dL_law_1675 : decode cL_law 1675 = .ok (.iaload, 1) := by decide +kernel
theorem dL_law_1676 : decode cL_law 1676 = .ok (.invokevirtual 241, 3) := by decide +kernel
theorem dL_law_1679 : decode cL_law 1679 = .ok (.istore 7, 2) := by decide +kernel
theorem dL_law_1681 : decode cL_law 1681 = .ok (.aload_n 2, 1) := by decide +kernel
theorem dL_law_1682 : decode cL_law 1682 = .ok (.invokevirtual 161, 3) := by decide +kernel
theorem dL_law_1685 : decode cL_law 1685 = .ok (.iload 6, 2) := by decide +kernel
theorem dL_law_1687 : decode cL_law 1687 = .ok (.if_icmp .eq 5, 3) := by decide +kernel
theorem dL_law_1690 : decode cL_law 1690 = .ok (.iconst 0, 1) := by decide +kernel
theorem dL_law_1691 : decode cL_law 1691 = .ok (.ireturn, 1) := by decide +kernel
theorem dL_law_1692 : decode cL_law 1692 = .ok (.iload 6, 2) := by decide +kernel
theorem dL_law_1694 : decode cL_law 1694 = .ok (.ifCond .ne 15, 3) := by decide +kernel
theorem dL_law_1697 : decode cL_law 1697 = .ok (.aload_n 3, 1) := by decide +kernel
theorem dL_law_1698 : decode cL_law 1698 = .ok (.iconst 0, 1) := by decide +kernel
theorem dL_law_1699 : decode cL_law 1699 = .ok (.laload, 1) := by decide +kernel
theorem dL_law_1700 : decode cL_law 1700 = .ok (.iload 7, 2) := by decide +kernel
theorem dL_law_1702 : decode cL_law 1702 = .ok (.i2l, 1) := by decide +kernel
theorem dL_law_1703 : decode cL_law 1703 = .ok (.lcmp, 1) := by decide +kernel
theorem dL_law_1704 : decode cL_law 1704 = .ok (.ifCond .eq 5, 3) := by decide +kernel
theorem dL_law_1707 : decode cL_law 1707 = .ok (.iconst 0, 1) := by decide +kernel
theorem dL_law_1708 : decode cL_law 1708 = .ok (.ireturn, 1) := by decide +kernel
theorem dL_law_1709 : decode cL_law 1709 = .ok (.goto 1107, 3) := by decide +kernel
theorem dL_law_1712 : decode cL_law 1712 = .ok (.aload_n 1, 1) := by decide +kernel
theorem dL_law_1713 : decode cL_law 1713 = .ok (.aload_n 0, 1) := by decide +kernel
theorem dL_law_1714 : decode cL_law 1714 = .ok (.iload 5, 2) := by decide +kernel
theorem dL_law_1716 : decode cL_law 1716 = .ok (.iconst 1, 1) := by decide +kernel
theorem dL_law_1717 : decode cL_law 1717 = .ok (.iadd, 1) := by decide +kernel
theorem dL_law_1718 : decode cL_law 1718 = .ok (.iaload, 1) := by decide +kernel
theorem dL_law_1719 : decode cL_law 1719 = .ok (.aload_n 0, 1) := by decide +kernel
theorem dL_law_1720 : decode cL_law 1720 = .ok (.iload 5, 2) := by decide +kernel
theorem dL_law_1722 : decode cL_law 1722 = .ok (.iconst 2, 1) := by decide +kernel
theorem dL_law_1723 : decode cL_law 1723 = .ok (.iadd, 1) := by decide +kernel
theorem dL_law_1724 : decode cL_law 1724 = .ok (.iaload, 1) := by decide +kernel
theorem dL_law_1725 : decode cL_law 1725 = .ok (.i2c, 1) := by decide +kernel
theorem dL_law_1726 : decode cL_law 1726 = .ok (.aload_n 3, 1) := by decide +kernel
theorem dL_law_1727 : decode cL_law 1727 = .ok (.invokestatic 242, 3) := by decide +kernel
theorem dL_law_1730 : decode cL_law 1730 = .ok (.istore 6, 2) := by decide +kernel
theorem dL_law_1732 : decode cL_law 1732 = .ok (.aload_n 2, 1) := by decide +kernel
theorem dL_law_1733 : decode cL_law 1733 = .ok (.aload_n 0, 1) := by decide +kernel
theorem dL_law_1734 : decode cL_law 1734 = .ok (.iload 5, 2) := by decide +kernel
theorem dL_law_1736 : decode cL_law 1736 = .ok (.iconst 1, 1) := by decide +kernel
theorem dL_law_1737 : decode cL_law 1737 = .ok (.iadd, 1) := by decide +kernel
theorem dL_law_1738 : decode cL_law 1738 = .ok (.iaload, 1) := by decide +kernel
theorem dL_law_1739 : decode cL_law 1739 = .ok (.aload_n 0, 1) := by decide +kernel
theorem dL_law_1740 : decode cL_law 1740 = .ok (.iload 5, 2) := by decide +kernel
theorem dL_law_1742 : decode cL_law 1742 = .ok (.iconst 2, 1) := by decide +kernel
theorem dL_law_1743 : decode cL_law 1743 = .ok (.iadd, 1) := by decide +kernel
theorem dL_law_1744 : decode cL_law 1744 = .ok (.iaload, 1) := by decide +kernel
theorem dL_law_1745 : decode cL_law 1745 = .ok (.i2c, 1) := by decide +kernel
theorem dL_law_1746 : decode cL_law 1746 = .ok (.invokevirtual 244, 3) := by decide +kernel
theorem dL_law_1749 : decode cL_law 1749 = .ok (.istore 7, 2) := by decide +kernel
theorem dL_law_1751 : decode cL_law 1751 = .ok (.aload_n 2, 1) := by decide +kernel
theorem dL_law_1752 : decode cL_law 1752 = .ok (.invokevirtual 161, 3) := by decide +kernel
theorem dL_law_1755 : decode cL_law 1755 = .ok (.iload 6, 2) := by decide +kernel
theorem dL_law_1757 : decode cL_law 1757 = .ok (.if_icmp .eq 5, 3) := by decide +kernel
theorem dL_law_1760 : decode cL_law 1760 = .ok (.iconst 0, 1) := by decide +kernel
theorem dL_law_1761 : decode cL_law 1761 = .ok (.ireturn, 1) := by decide +kernel
theorem dL_law_1762 : decode cL_law 1762 = .ok (.iload 6, 2) := by decide +kernel
theorem dL_law_1764 : decode cL_law 1764 = .ok (.ifCond .ne 15, 3) := by decide +kernel
theorem dL_law_1767 : decode cL_law 1767 = .ok (.aload_n 3, 1) := by decide +kernel
theorem dL_law_1768 : decode cL_law 1768 = .ok (.iconst 0, 1) := by decide +kernel
theorem dL_law_1769 : decode cL_law 1769 = .ok (.laload, 1) := by decide +kernel
theorem dL_law_1770 : decode cL_law 1770 = .ok (.iload 7, 2) := by decide +kernel
theorem dL_law_1772 : decode cL_law 1772 = .ok (.i2l, 1) := by decide +kernel
theorem dL_law_1773 : decode cL_law 1773 = .ok (.lcmp, 1) := by decide +kernel
theorem dL_law_1774 : decode cL_law 1774 = .ok (.ifCond .eq 5, 3) := by decide +kernel
theorem dL_law_1777 : decode cL_law 1777 = .ok (.iconst 0, 1) := by decide +kernel
theorem dL_law_1778 : decode cL_law 1778 = .ok (.ireturn, 1) := by decide +kernel
theorem dL_law_1779 : decode cL_law 1779 = .ok (.goto 1037, 3) := by decide +kernel
theorem dL_law_1782 : decode cL_law 1782 = .ok (.aload_n 1, 1) := by decide +kernel
theorem dL_law_1783 : decode cL_law 1783 = .ok (.aload_n 0, 1) := by decide +kernel
theorem dL_law_1784 : decode cL_law 1784 = .ok (.iload 5, 2) := by decide +kernel
theorem dL_law_1786 : decode cL_law 1786 = .ok (.iconst 1, 1) := by decide +kernel
theorem dL_law_1787 : decode cL_law 1787 = .ok (.iadd, 1) := by decide +kernel
theorem dL_law_1788 : decode cL_law 1788 = .ok (.iaload, 1) := by decide +kernel
theorem dL_law_1789 : decode cL_law 1789 = .ok (.aload_n 3, 1) := by decide +kernel
theorem dL_law_1790 : decode cL_law 1790 = .ok (.invokestatic 245, 3) := by decide +kernel
theorem dL_law_1793 : decode cL_law 1793 = .ok (.istore 6, 2) := by decide +kernel
theorem dL_law_1795 : decode cL_law 1795 = .ok (.aload_n 2, 1) := by decide +kernel
theorem dL_law_1796 : decode cL_law 1796 = .ok (.aload_n 0, 1) := by decide +kernel
theorem dL_law_1797 : decode cL_law 1797 = .ok (.iload 5, 2) := by decide +kernel
theorem dL_law_1799 : decode cL_law 1799 = .ok (.iconst 1, 1) := by decide +kernel
theorem dL_law_1800 : decode cL_law 1800 = .ok (.iadd, 1) := by decide +kernel
theorem dL_law_1801 : decode cL_law 1801 = .ok (.iaload, 1) := by decide +kernel
theorem dL_law_1802 : decode cL_law 1802 = .ok (.invokevirtual 247, 3) := by decide +kernel
theorem dL_law_1805 : decode cL_law 1805 = .ok (.istore 7, 2) := by decide +kernel
theorem dL_law_1807 : decode cL_law 1807 = .ok (.aload_n 2, 1) := by decide +kernel
theorem dL_law_1808 : decode cL_law 1808 = .ok (.invokevirtual 161, 3) := by decide +kernel
theorem dL_law_1811 : decode cL_law 1811 = .ok (.iload 6, 2) := by decide +kernel
theorem dL_law_1813 : decode cL_law 1813 = .ok (.if_icmp .eq 5, 3) := by decide +kernel
theorem dL_law_1816 : decode cL_law 1816 = .ok (.iconst 0, 1) := by decide +kernel
theorem dL_law_1817 : decode cL_law 1817 = .ok (.ireturn, 1) := by decide +kernel
theorem dL_law_1818 : decode cL_law 1818 = .ok (.iload 6, 2) := by decide +kernel
theorem dL_law_1820 : decode cL_law 1820 = .ok (.ifCond .ne 22, 3) := by decide +kernel
theorem dL_law_1823 : decode cL_law 1823 = .ok (.aload_n 3, 1) := by decide +kernel
theorem dL_law_1824 : decode cL_law 1824 = .ok (.iconst 0, 1) := by decide +kernel
theorem dL_law_1825 : decode cL_law 1825 = .ok (.laload, 1) := by decide +kernel
theorem dL_law_1826 : decode cL_law 1826 = .ok (.iload 7, 2) := by decide +kernel
theorem dL_law_1828 : decode cL_law 1828 = .ok (.ifCond .eq 7, 3) := by decide +kernel
theorem dL_law_1831 : decode cL_law 1831 = .ok (.lconst 1, 1) := by decide +kernel
theorem dL_law_1832 : decode cL_law 1832 = .ok (.goto 4, 3) := by decide +kernel
theorem dL_law_1835 : decode cL_law 1835 = .ok (.lconst 0, 1) := by decide +kernel
theorem dL_law_1836 : decode cL_law 1836 = .ok (.lcmp, 1) := by decide +kernel
theorem dL_law_1837 : decode cL_law 1837 = .ok (.ifCond .eq 5, 3) := by decide +kernel
theorem dL_law_1840 : decode cL_law 1840 = .ok (.iconst 0, 1) := by decide +kernel
theorem dL_law_1841 : decode cL_law 1841 = .ok (.ireturn, 1) := by decide +kernel
theorem dL_law_1842 : decode cL_law 1842 = .ok (.goto 974, 3) := by decide +kernel
theorem dL_law_1845 : decode cL_law 1845 = .ok (.aload_n 1, 1) := by decide +kernel
theorem dL_law_1846 : decode cL_law 1846 = .ok (.aload_n 0, 1) := by decide +kernel
theorem dL_law_1847 : decode cL_law 1847 = .ok (.iload 5, 2) := by decide +kernel
theorem dL_law_1849 : decode cL_law 1849 = .ok (.iconst 1, 1) := by decide +kernel
theorem dL_law_1850 : decode cL_law 1850 = .ok (.iadd, 1) := by decide +kernel
theorem dL_law_1851 : decode cL_law 1851 = .ok (.iaload, 1) := by decide +kernel
theorem dL_law_1852 : decode cL_law 1852 = .ok (.aload_n 3, 1) := by decide +kernel
theorem dL_law_1853 : decode cL_law 1853 = .ok (.invokestatic 248, 3) := by decide +kernel
theorem dL_law_1856 : decode cL_law 1856 = .ok (.istore 6, 2) := by decide +kernel
theorem dL_law_1858 : decode cL_law 1858 = .ok (.aload_n 2, 1) := by decide +kernel
theorem dL_law_1859 : decode cL_law 1859 = .ok (.aload_n 0, 1) := by decide +kernel
theorem dL_law_1860 : decode cL_law 1860 = .ok (.iload 5, 2) := by decide +kernel
theorem dL_law_1862 : decode cL_law 1862 = .ok (.iconst 1, 1) := by decide +kernel
theorem dL_law_1863 : decode cL_law 1863 = .ok (.iadd, 1) := by decide +kernel
theorem dL_law_1864 : decode cL_law 1864 = .ok (.iaload, 1) := by decide +kernel
theorem dL_law_1865 : decode cL_law 1865 = .ok (.invokevirtual 250, 3) := by decide +kernel
theorem dL_law_1868 : decode cL_law 1868 = .ok (.istore 7, 2) := by decide +kernel
theorem dL_law_1870 : decode cL_law 1870 = .ok (.aload_n 2, 1) := by decide +kernel
theorem dL_law_1871 : decode cL_law 1871 = .ok (.invokevirtual 161, 3) := by decide +kernel
theorem dL_law_1874 : decode cL_law 1874 = .ok (.iload 6, 2) := by decide +kernel
theorem dL_law_1876 : decode cL_law 1876 = .ok (.if_icmp .eq 5, 3) := by decide +kernel
theorem dL_law_1879 : decode cL_law 1879 = .ok (.iconst 0, 1) := by decide +kernel
theorem dL_law_1880 : decode cL_law 1880 = .ok (.ireturn, 1) := by decide +kernel
theorem dL_law_1881 : decode cL_law 1881 = .ok (.iload 6, 2) := by decide +kernel
theorem dL_law_1883 : decode cL_law 1883 = .ok (.ifCond .ne 15, 3) := by decide +kernel
theorem dL_law_1886 : decode cL_law 1886 = .ok (.aload_n 3, 1) := by decide +kernel
theorem dL_law_1887 : decode cL_law 1887 = .ok (.iconst 0, 1) := by decide +kernel
theorem dL_law_1888 : decode cL_law 1888 = .ok (.laload, 1) := by decide +kernel
theorem dL_law_1889 : decode cL_law 1889 = .ok (.iload 7, 2) := by decide +kernel
theorem dL_law_1891 : decode cL_law 1891 = .ok (.i2l, 1) := by decide +kernel
theorem dL_law_1892 : decode cL_law 1892 = .ok (.lcmp, 1) := by decide +kernel
theorem dL_law_1893 : decode cL_law 1893 = .ok (.ifCond .eq 5, 3) := by decide +kernel
theorem dL_law_1896 : decode cL_law 1896 = .ok (.iconst 0, 1) := by decide +kernel
theorem dL_law_1897 : decode cL_law 1897 = .ok (.ireturn, 1) := by decide +kernel
theorem dL_law_1898 : decode cL_law 1898 = .ok (.goto 918, 3) := by decide +kernel
theorem dL_law_1901 : decode cL_law 1901 = .ok (.aload_n 1, 1) := by decide +kernel
theorem dL_law_1902 : decode cL_law 1902 = .ok (.aload_n 0, 1) := by decide +kernel
theorem dL_law_1903 : decode cL_law 1903 = .ok (.iload 5, 2) := by decide +kernel
theorem dL_law_1905 : decode cL_law 1905 = .ok (.iconst 1, 1) := by decide +kernel
theorem dL_law_1906 : decode cL_law 1906 = .ok (.iadd, 1) := by decide +kernel
theorem dL_law_1907 : decode cL_law 1907 = .ok (.iaload, 1) := by decide +kernel
theorem dL_law_1908 : decode cL_law 1908 = .ok (.aload_n 0, 1) := by decide +kernel
theorem dL_law_1909 : decode cL_law 1909 = .ok (.iload 5, 2) := by decide +kernel
theorem dL_law_1911 : decode cL_law 1911 = .ok (.iconst 2, 1) := by decide +kernel
theorem dL_law_1912 : decode cL_law 1912 = .ok (.iadd, 1) := by decide +kernel
theorem dL_law_1913 : decode cL_law 1913 = .ok (.iaload, 1) := by decide +kernel
theorem dL_law_1914 : decode cL_law 1914 = .ok (.aload_n 3, 1) := by decide +kernel
theorem dL_law_1915 : decode cL_law 1915 = .ok (.invokestatic 251, 3) := by decide +kernel
theorem dL_law_1918 : decode cL_law 1918 = .ok (.istore 6, 2) := by decide +kernel
theorem dL_law_1920 : decode cL_law 1920 = .ok (.aload_n 2, 1) := by decide +kernel
theorem dL_law_1921 : decode cL_law 1921 = .ok (.aload_n 0, 1) := by decide +kernel
theorem dL_law_1922 : decode cL_law 1922 = .ok (.iload 5, 2) := by decide +kernel
theorem dL_law_1924 : decode cL_law 1924 = .ok (.iconst 1, 1) := by decide +kernel
theorem dL_law_1925 : decode cL_law 1925 = .ok (.iadd, 1) := by decide +kernel
theorem dL_law_1926 : decode cL_law 1926 = .ok (.iaload, 1) := by decide +kernel
theorem dL_law_1927 : decode cL_law 1927 = .ok (.aload_n 0, 1) := by decide +kernel
theorem dL_law_1928 : decode cL_law 1928 = .ok (.iload 5, 2) := by decide +kernel
theorem dL_law_1930 : decode cL_law 1930 = .ok (.iconst 2, 1) := by decide +kernel
theorem dL_law_1931 : decode cL_law 1931 = .ok (.iadd, 1) := by decide +kernel
theorem dL_law_1932 : decode cL_law 1932 = .ok (.iaload, 1) := by decide +kernel
theorem dL_law_1933 : decode cL_law 1933 = .ok (.invokevirtual 253, 3) := by decide +kernel
theorem dL_law_1936 : decode cL_law 1936 = .ok (.istore 7, 2) := by decide +kernel
theorem dL_law_1938 : decode cL_law 1938 = .ok (.aload_n 2, 1) := by decide +kernel
theorem dL_law_1939 : decode cL_law 1939 = .ok (.invokevirtual 161, 3) := by decide +kernel
theorem dL_law_1942 : decode cL_law 1942 = .ok (.iload 6, 2) := by decide +kernel
theorem dL_law_1944 : decode cL_law 1944 = .ok (.if_icmp .eq 5, 3) := by decide +kernel
theorem dL_law_1947 : decode cL_law 1947 = .ok (.iconst 0, 1) := by decide +kernel
theorem dL_law_1948 : decode cL_law 1948 = .ok (.ireturn, 1) := by decide +kernel
theorem dL_law_1949 : decode cL_law 1949 = .ok (.iload 6, 2) := by decide +kernel
theorem dL_law_1951 : decode cL_law 1951 = .ok (.ifCond .ne 15, 3) := by decide +kernel
theorem dL_law_1954 : decode cL_law 1954 = .ok (.aload_n 3, 1) := by decide +kernel
theorem dL_law_1955 : decode cL_law 1955 = .ok (.iconst 0, 1) := by decide +kernel
theorem dL_law_1956 : decode cL_law 1956 = .ok (.laload, 1) := by decide +kernel
theorem dL_law_1957 : decode cL_law 1957 = .ok (.iload 7, 2) := by decide +kernel
theorem dL_law_1959 : decode cL_law 1959 = .ok (.i2l, 1) := by decide +kernel
theorem dL_law_1960 : decode cL_law 1960 = .ok (.lcmp, 1) := by decide +kernel
theorem dL_law_1961 : decode cL_law 1961 = .ok (.ifCond .eq 5, 3) := by decide +kernel
theorem dL_law_1964 : decode cL_law 1964 = .ok (.iconst 0, 1) := by decide +kernel
theorem dL_law_1965 : decode cL_law 1965 = .ok (.ireturn, 1) := by decide +kernel
theorem dL_law_1966 : decode cL_law 1966 = .ok (.goto 850, 3) := by decide +kernel
theorem dL_law_1969 : decode cL_law 1969 = .ok (.aload_n 1, 1) := by decide +kernel
theorem dL_law_1970 : decode cL_law 1970 = .ok (.aload_n 0, 1) := by decide +kernel
theorem dL_law_1971 : decode cL_law 1971 = .ok (.iload 5, 2) := by decide +kernel
theorem dL_law_1973 : decode cL_law 1973 = .ok (.iconst 1, 1) := by decide +kernel
theorem dL_law_1974 : decode cL_law 1974 = .ok (.iadd, 1) := by decide +kernel
theorem dL_law_1975 : decode cL_law 1975 = .ok (.iaload, 1) := by decide +kernel
theorem dL_law_1976 : decode cL_law 1976 = .ok (.aload_n 0, 1) := by decide +kernel
theorem dL_law_1977 : decode cL_law 1977 = .ok (.iload 5, 2) := by decide +kernel
theorem dL_law_1979 : decode cL_law 1979 = .ok (.iconst 2, 1) := by decide +kernel
theorem dL_law_1980 : decode cL_law 1980 = .ok (.iadd, 1) := by decide +kernel
theorem dL_law_1981 : decode cL_law 1981 = .ok (.iaload, 1) := by decide +kernel
theorem dL_law_1982 : decode cL_law 1982 = .ok (.aload_n 3, 1) := by decide +kernel
theorem dL_law_1983 : decode cL_law 1983 = .ok (.invokestatic 254, 3) := by decide +kernel
theorem dL_law_1986 : decode cL_law 1986 = .ok (.istore 6, 2) := by decide +kernel
theorem dL_law_1988 : decode cL_law 1988 = .ok (.aload_n 2, 1) := by decide +kernel
theorem dL_law_1989 : decode cL_law 1989 = .ok (.aload_n 0, 1) := by decide +kernel
theorem dL_law_1990 : decode cL_law 1990 = .ok (.iload 5, 2) := by decide +kernel
theorem dL_law_1992 : decode cL_law 1992 = .ok (.iconst 1, 1) := by decide +kernel
theorem dL_law_1993 : decode cL_law 1993 = .ok (.iadd, 1) := by decide +kernel
theorem dL_law_1994 : decode cL_law 1994 = .ok (.iaload, 1) := by decide +kernel
theorem dL_law_1995 : decode cL_law 1995 = .ok (.aload_n 0, 1) := by decide +kernel
theorem dL_law_1996 : decode cL_law 1996 = .ok (.iload 5, 2) := by decide +kernel
theorem dL_law_1998 : decode cL_law 1998 = .ok (.iconst 2, 1) := by decide +kernel
theorem dL_law_1999 : decode cL_law 1999 = .ok (.iadd, 1) := by decide +kernel
theorem dL_law_2000 : decode cL_law 2000 = .ok (.iaload, 1) := by decide +kernel
theorem dL_law_2001 : decode cL_law 2001 = .ok (.invokevirtual 256, 3) := by decide +kernel
theorem dL_law_2004 : decode cL_law 2004 = .ok (.istore 7, 2) := by decide +kernel
theorem dL_law_2006 : decode cL_law 2006 = .ok (.aload_n 2, 1) := by decide +kernel
theorem dL_law_2007 : decode cL_law 2007 = .ok (.invokevirtual 161, 3) := by decide +kernel
theorem dL_law_2010 : decode cL_law 2010 = .ok (.iload 6, 2) := by decide +kernel
theorem dL_law_2012 : decode cL_law 2012 = .ok (.if_icmp .eq 5, 3) := by decide +kernel
theorem dL_law_2015 : decode cL_law 2015 = .ok (.iconst 0, 1) := by decide +kernel
theorem dL_law_2016 : decode cL_law 2016 = .ok (.ireturn, 1) := by decide +kernel
theorem dL_law_2017 : decode cL_law 2017 = .ok (.iload 6, 2) := by decide +kernel
theorem dL_law_2019 : decode cL_law 2019 = .ok (.ifCond .ne 15, 3) := by decide +kernel
theorem dL_law_2022 : decode cL_law 2022 = .ok (.aload_n 3, 1) := by decide +kernel
theorem dL_law_2023 : decode cL_law 2023 = .ok (.iconst 0, 1) := by decide +kernel
theorem dL_law_2024 : decode cL_law 2024 = .ok (.laload, 1) := by decide +kernel
theorem dL_law_2025 : decode cL_law 2025 = .ok (.iload 7, 2) := by decide +kernel
theorem dL_law_2027 : decode cL_law 2027 = .ok (.i2l, 1) := by decide +kernel
theorem dL_law_2028 : decode cL_law 2028 = .ok (.lcmp, 1) := by decide +kernel
theorem dL_law_2029 : decode cL_law 2029 = .ok (.ifCond .eq 5, 3) := by decide +kernel
theorem dL_law_2032 : decode cL_law 2032 = .ok (.iconst 0, 1) := by decide +kernel
theorem dL_law_2033 : decode cL_law 2033 = .ok (.ireturn, 1) := by decide +kernel
theorem dL_law_2034 : decode cL_law 2034 = .ok (.goto 782, 3) := by decide +kernel
theorem dL_law_2037 : decode cL_law 2037 = .ok (.aload_n 1, 1) := by decide +kernel
theorem dL_law_2038 : decode cL_law 2038 = .ok (.aload_n 0, 1) := by decide +kernel
theorem dL_law_2039 : decode cL_law 2039 = .ok (.iload 5, 2) := by decide +kernel
theorem dL_law_2041 : decode cL_law 2041 = .ok (.iconst 1, 1) := by decide +kernel
theorem dL_law_2042 : decode cL_law 2042 = .ok (.iadd, 1) := by decide +kernel
theorem dL_law_2043 : decode cL_law 2043 = .ok (.iaload, 1) := by decide +kernel
theorem dL_law_2044 : decode cL_law 2044 = .ok (.aload_n 3, 1) := by decide +kernel
theorem dL_law_2045 : decode cL_law 2045 = .ok (.invokestatic 257, 3) := by decide +kernel
theorem dL_law_2048 : decode cL_law 2048 = .ok (.istore 6, 2) := by decide +kernel
theorem dL_law_2050 : decode cL_law 2050 = .ok (.aload_n 2, 1) := by decide +kernel
theorem dL_law_2051 : decode cL_law 2051 = .ok (.aload_n 0, 1) := by decide +kernel
theorem dL_law_2052 : decode cL_law 2052 = .ok (.iload 5, 2) := by decide +kernel
theorem dL_law_2054 : decode cL_law 2054 = .ok (.iconst 1, 1) := by decide +kernel
theorem dL_law_2055 : decode cL_law 2055 = .ok (.iadd, 1) := by decide +kernel
theorem dL_law_2056 : decode cL_law 2056 = .ok (.iaload, 1) := by decide +kernel
theorem dL_law_2057 : decode cL_law 2057 = .ok (.invokevirtual 259, 3) := by decide +kernel
theorem dL_law_2060 : decode cL_law 2060 = .ok (.istore 7, 2) := by decide +kernel
theorem dL_law_2062 : decode cL_law 2062 = .ok (.aload_n 2, 1) := by decide +kernel
theorem dL_law_2063 : decode cL_law 2063 = .ok (.invokevirtual 161, 3) := by decide +kernel
theorem dL_law_2066 : decode cL_law 2066 = .ok (.iload 6, 2) := by decide +kernel
theorem dL_law_2068 : decode cL_law 2068 = .ok (.if_icmp .eq 5, 3) := by decide +kernel
theorem dL_law_2071 : decode cL_law 2071 = .ok (.iconst 0, 1) := by decide +kernel
theorem dL_law_2072 : decode cL_law 2072 = .ok (.ireturn, 1) := by decide +kernel
theorem dL_law_2073 : decode cL_law 2073 = .ok (.iload 6, 2) := by decide +kernel
theorem dL_law_2075 : decode cL_law 2075 = .ok (.ifCond .ne 15, 3) := by decide +kernel
theorem dL_law_2078 : decode cL_law 2078 = .ok (.aload_n 3, 1) := by decide +kernel
theorem dL_law_2079 : decode cL_law 2079 = .ok (.iconst 0, 1) := by decide +kernel
theorem dL_law_2080 : decode cL_law 2080 = .ok (.laload, 1) := by decide +kernel
theorem dL_law_2081 : decode cL_law 2081 = .ok (.iload 7, 2) := by decide +kernel
theorem dL_law_2083 : decode cL_law 2083 = .ok (.i2l, 1) := by decide +kernel
theorem dL_law_2084 : decode cL_law 2084 = .ok (.lcmp, 1) := by decide +kernel
theorem dL_law_2085 : decode cL_law 2085 = .ok (.ifCond .eq 5, 3) := by decide +kernel
theorem dL_law_2088 : decode cL_law 2088 = .ok (.iconst 0, 1) := by decide +kernel
theorem dL_law_2089 : decode cL_law 2089 = .ok (.ireturn, 1) := by decide +kernel
theorem dL_law_2090 : decode cL_law 2090 = .ok (.goto 726, 3) := by decide +kernel
theorem dL_law_2093 : decode cL_law 2093 = .ok (.aload_n 1, 1) := by decide +kernel
theorem dL_law_2094 : decode cL_law 2094 = .ok (.aload_n 0, 1) := by decide +kernel
theorem dL_law_2095 : decode cL_law 2095 = .ok (.iload 5, 2) := by decide +kernel
theorem dL_law_2097 : decode cL_law 2097 = .ok (.iconst 1, 1) := by decide +kernel
theorem dL_law_2098 : decode cL_law 2098 = .ok (.iadd, 1) := by decide +kernel
theorem dL_law_2099 : decode cL_law 2099 = .ok (.iaload, 1) := by decide +kernel
theorem dL_law_2100 : decode cL_law 2100 = .ok (.aload_n 3, 1) := by decide +kernel
theorem dL_law_2101 : decode cL_law 2101 = .ok (.invokestatic 260, 3) := by decide +kernel
theorem dL_law_2104 : decode cL_law 2104 = .ok (.istore 6, 2) := by decide +kernel
theorem dL_law_2106 : decode cL_law 2106 = .ok (.aload_n 2, 1) := by decide +kernel
theorem dL_law_2107 : decode cL_law 2107 = .ok (.aload_n 0, 1) := by decide +kernel
theorem dL_law_2108 : decode cL_law 2108 = .ok (.iload 5, 2) := by decide +kernel
theorem dL_law_2110 : decode cL_law 2110 = .ok (.iconst 1, 1) := by decide +kernel
theorem dL_law_2111 : decode cL_law 2111 = .ok (.iadd, 1) := by decide +kernel
theorem dL_law_2112 : decode cL_law 2112 = .ok (.iaload, 1) := by decide +kernel
theorem dL_law_2113 : decode cL_law 2113 = .ok (.invokevirtual 262, 3) := by decide +kernel
theorem dL_law_2116 : decode cL_law 2116 = .ok (.istore 7, 2) := by decide +kernel
theorem dL_law_2118 : decode cL_law 2118 = .ok (.aload_n 2, 1) := by decide +kernel
theorem dL_law_2119 : decode cL_law 2119 = .ok (.invokevirtual 161, 3) := by decide +kernel
theorem dL_law_2122 : decode cL_law 2122 = .ok (.iload 6, 2) := by decide +kernel
theorem dL_law_2124 : decode cL_law 2124 = .ok (.if_icmp .eq 5, 3) := by decide +kernel
theorem dL_law_2127 : decode cL_law 2127 = .ok (.iconst 0, 1) := by decide +kernel
theorem dL_law_2128 : decode cL_law 2128 = .ok (.ireturn, 1) := by decide +kernel
theorem dL_law_2129 : decode cL_law 2129 = .ok (.iload 6, 2) := by decide +kernel
theorem dL_law_2131 : decode cL_law 2131 = .ok (.ifCond .ne 15, 3) := by decide +kernel
theorem dL_law_2134 : decode cL_law 2134 = .ok (.aload_n 3, 1) := by decide +kernel
theorem dL_law_2135 : decode cL_law 2135 = .ok (.iconst 0, 1) := by decide +kernel
theorem dL_law_2136 : decode cL_law 2136 = .ok (.laload, 1) := by decide +kernel
theorem dL_law_2137 : decode cL_law 2137 = .ok (.iload 7, 2) := by decide +kernel
theorem dL_law_2139 : decode cL_law 2139 = .ok (.i2l, 1) := by decide +kernel
theorem dL_law_2140 : decode cL_law 2140 = .ok (.lcmp, 1) := by decide +kernel
theorem dL_law_2141 : decode cL_law 2141 = .ok (.ifCond .eq 5, 3) := by decide +kernel
theorem dL_law_2144 : decode cL_law 2144 = .ok (.iconst 0, 1) := by decide +kernel
theorem dL_law_2145 : decode cL_law 2145 = .ok (.ireturn, 1) := by decide +kernel
theorem dL_law_2146 : decode cL_law 2146 = .ok (.goto 670, 3) := by decide +kernel
theorem dL_law_2149 : decode cL_law 2149 = .ok (.aload_n 1, 1) := by decide +kernel
theorem dL_law_2150 : decode cL_law 2150 = .ok (.invokevirtual 263, 3) := by decide +kernel
theorem dL_law_2153 : decode cL_law 2153 = .ok (.aload_n 2, 1) := by decide +kernel
theorem dL_law_2154 : decode cL_law 2154 = .ok (.invokevirtual 266, 3) := by decide +kernel
theorem dL_law_2157 : decode cL_law 2157 = .ok (.if_icmp .eq 659, 3) := by decide +kernel
theorem dL_law_2160 : decode cL_law 2160 = .ok (.iconst 0, 1) := by decide +kernel
theorem dL_law_2161 : decode cL_law 2161 = .ok (.ireturn, 1) := by decide +kernel
theorem dL_law_2162 : decode cL_law 2162 = .ok (.aload_n 1, 1) := by decide +kernel
theorem dL_law_2163 : decode cL_law 2163 = .ok (.aload_n 0, 1) := by decide +kernel
theorem dL_law_2164 : decode cL_law 2164 = .ok (.iload 5, 2) := by decide +kernel
theorem dL_law_2166 : decode cL_law 2166 = .ok (.iconst 1, 1) := by decide +kernel
theorem dL_law_2167 : decode cL_law 2167 = .ok (.iadd, 1) := by decide +kernel
theorem dL_law_2168 : decode cL_law 2168 = .ok (.iaload, 1) := by decide +kernel
theorem dL_law_2169 : decode cL_law 2169 = .ok (.aload_n 0, 1) := by decide +kernel
theorem dL_law_2170 : decode cL_law 2170 = .ok (.iload 5, 2) := by decide +kernel
theorem dL_law_2172 : decode cL_law 2172 = .ok (.iconst 2, 1) := by decide +kernel
theorem dL_law_2173 : decode cL_law 2173 = .ok (.iadd, 1) := by decide +kernel
theorem dL_law_2174 : decode cL_law 2174 = .ok (.iaload, 1) := by decide +kernel
theorem dL_law_2175 : decode cL_law 2175 = .ok (.aload_n 3, 1) := by decide +kernel
theorem dL_law_2176 : decode cL_law 2176 = .ok (.invokestatic 267, 3) := by decide +kernel
theorem dL_law_2179 : decode cL_law 2179 = .ok (.istore 6, 2) := by decide +kernel
theorem dL_law_2181 : decode cL_law 2181 = .ok (.aload_n 2, 1) := by decide +kernel
theorem dL_law_2182 : decode cL_law 2182 = .ok (.aload_n 0, 1) := by decide +kernel
theorem dL_law_2183 : decode cL_law 2183 = .ok (.iload 5, 2) := by decide +kernel
theorem dL_law_2185 : decode cL_law 2185 = .ok (.iconst 1, 1) := by decide +kernel
theorem dL_law_2186 : decode cL_law 2186 = .ok (.iadd, 1) := by decide +kernel
theorem dL_law_2187 : decode cL_law 2187 = .ok (.iaload, 1) := by decide +kernel
theorem dL_law_2188 : decode cL_law 2188 = .ok (.aload_n 0, 1) := by decide +kernel
theorem dL_law_2189 : decode cL_law 2189 = .ok (.iload 5, 2) := by decide +kernel
theorem dL_law_2191 : decode cL_law 2191 = .ok (.iconst 2, 1) := by decide +kernel
theorem dL_law_2192 : decode cL_law 2192 = .ok (.iadd, 1) := by decide +kernel
theorem dL_law_2193 : decode cL_law 2193 = .ok (.iaload, 1) := by decide +kernel
theorem dL_law_2194 : decode cL_law 2194 = .ok (.invokevirtual 269, 3) := by decide +kernel
theorem dL_law_2197 : decode cL_law 2197 = .ok (.istore 7, 2) := by decide +kernel
theorem dL_law_2199 : decode cL_law 2199 = .ok (.aload_n 2, 1) := by decide +kernel
theorem dL_law_2200 : decode cL_law 2200 = .ok (.invokevirtual 161, 3) := by decide +kernel
theorem dL_law_2203 : decode cL_law 2203 = .ok (.iload 6, 2) := by decide +kernel
theorem dL_law_2205 : decode cL_law 2205 = .ok (.if_icmp .eq 5, 3) := by decide +kernel
theorem dL_law_2208 : decode cL_law 2208 = .ok (.iconst 0, 1) := by decide +kernel
theorem dL_law_2209 : decode cL_law 2209 = .ok (.ireturn, 1) := by decide +kernel
theorem dL_law_2210 : decode cL_law 2210 = .ok (.iload 6, 2) := by decide +kernel
theorem dL_law_2212 : decode cL_law 2212 = .ok (.ifCond .ne 15, 3) := by decide +kernel
theorem dL_law_2215 : decode cL_law 2215 = .ok (.aload_n 3, 1) := by decide +kernel
theorem dL_law_2216 : decode cL_law 2216 = .ok (.iconst 0, 1) := by decide +kernel
theorem dL_law_2217 : decode cL_law 2217 = .ok (.laload, 1) := by decide +kernel
theorem dL_law_2218 : decode cL_law 2218 = .ok (.iload 7, 2) := by decide +kernel
theorem dL_law_2220 : decode cL_law 2220 = .ok (.i2l, 1) := by decide +kernel
theorem dL_law_2221 : decode cL_law 2221 = .ok (.lcmp, 1) := by decide +kernel
theorem dL_law_2222 : decode cL_law 2222 = .ok (.ifCond .eq 5, 3) := by decide +kernel
theorem dL_law_2225 : decode cL_law 2225 = .ok (.iconst 0, 1) := by decide +kernel
theorem dL_law_2226 : decode cL_law 2226 = .ok (.ireturn, 1) := by decide +kernel
theorem dL_law_2227 : decode cL_law 2227 = .ok (.goto 589, 3) := by decide +kernel
theorem dL_law_2230 : decode cL_law 2230 = .ok (.aload_n 1, 1) := by decide +kernel
theorem dL_law_2231 : decode cL_law 2231 = .ok (.aload_n 0, 1) := by decide +kernel
theorem dL_law_2232 : decode cL_law 2232 = .ok (.iload 5, 2) := by decide +kernel
theorem dL_law_2234 : decode cL_law 2234 = .ok (.iconst 1, 1) := by decide +kernel
theorem dL_law_2235 : decode cL_law 2235 = .ok (.iadd, 1) := by decide +kernel
theorem dL_law_2236 : decode cL_law 2236 = .ok (.iaload, 1) := by decide +kernel
theorem dL_law_2237 : decode cL_law 2237 = .ok (.aload_n 0, 1) := by decide +kernel
theorem dL_law_2238 : decode cL_law 2238 = .ok (.iload 5, 2) := by decide +kernel
theorem dL_law_2240 : decode cL_law 2240 = .ok (.iconst 2, 1) := by decide +kernel
theorem dL_law_2241 : decode cL_law 2241 = .ok (.iadd, 1) := by decide +kernel
theorem dL_law_2242 : decode cL_law 2242 = .ok (.iaload, 1) := by decide +kernel
theorem dL_law_2243 : decode cL_law 2243 = .ok (.aload_n 3, 1) := by decide +kernel
theorem dL_law_2244 : decode cL_law 2244 = .ok (.invokestatic 270, 3) := by decide +kernel
theorem dL_law_2247 : decode cL_law 2247 = .ok (.istore 6, 2) := by decide +kernel
theorem dL_law_2249 : decode cL_law 2249 = .ok (.aload_n 2, 1) := by decide +kernel
theorem dL_law_2250 : decode cL_law 2250 = .ok (.aload_n 0, 1) := by decide +kernel
theorem dL_law_2251 : decode cL_law 2251 = .ok (.iload 5, 2) := by decide +kernel
theorem dL_law_2253 : decode cL_law 2253 = .ok (.iconst 1, 1) := by decide +kernel
theorem dL_law_2254 : decode cL_law 2254 = .ok (.iadd, 1) := by decide +kernel
theorem dL_law_2255 : decode cL_law 2255 = .ok (.iaload, 1) := by decide +kernel
theorem dL_law_2256 : decode cL_law 2256 = .ok (.aload_n 0, 1) := by decide +kernel
theorem dL_law_2257 : decode cL_law 2257 = .ok (.iload 5, 2) := by decide +kernel
theorem dL_law_2259 : decode cL_law 2259 = .ok (.iconst 2, 1) := by decide +kernel
theorem dL_law_2260 : decode cL_law 2260 = .ok (.iadd, 1) := by decide +kernel
theorem dL_law_2261 : decode cL_law 2261 = .ok (.iaload, 1) := by decide +kernel
theorem dL_law_2262 : decode cL_law 2262 = .ok (.invokevirtual 272, 3) := by decide +kernel
theorem dL_law_2265 : decode cL_law 2265 = .ok (.istore 7, 2) := by decide +kernel
theorem dL_law_2267 : decode cL_law 2267 = .ok (.aload_n 2, 1) := by decide +kernel
theorem dL_law_2268 : decode cL_law 2268 = .ok (.invokevirtual 161, 3) := by decide +kernel
theorem dL_law_2271 : decode cL_law 2271 = .ok (.iload 6, 2) := by decide +kernel
theorem dL_law_2273 : decode cL_law 2273 = .ok (.if_icmp .eq 5, 3) := by decide +kernel
theorem dL_law_2276 : decode cL_law 2276 = .ok (.iconst 0, 1) := by decide +kernel
theorem dL_law_2277 : decode cL_law 2277 = .ok (.ireturn, 1) := by decide +kernel
theorem dL_law_2278 : decode cL_law 2278 = .ok (.iload 6, 2) := by decide +kernel
theorem dL_law_2280 : decode cL_law 2280 = .ok (.ifCond .ne 15, 3) := by decide +kernel
theorem dL_law_2283 : decode cL_law 2283 = .ok (.aload_n 3, 1) := by decide +kernel
theorem dL_law_2284 : decode cL_law 2284 = .ok (.iconst 0, 1) := by decide +kernel
theorem dL_law_2285 : decode cL_law 2285 = .ok (.laload, 1) := by decide +kernel
theorem dL_law_2286 : decode cL_law 2286 = .ok (.iload 7, 2) := by decide +kernel
theorem dL_law_2288 : decode cL_law 2288 = .ok (.i2l, 1) := by decide +kernel
theorem dL_law_2289 : decode cL_law 2289 = .ok (.lcmp, 1) := by decide +kernel
theorem dL_law_2290 : decode cL_law 2290 = .ok (.ifCond .eq 5, 3) := by decide +kernel
theorem dL_law_2293 : decode cL_law 2293 = .ok (.iconst 0, 1) := by decide +kernel
theorem dL_law_2294 : decode cL_law 2294 = .ok (.ireturn, 1) := by decide +kernel
theorem dL_law_2295 : decode cL_law 2295 = .ok (.goto 521, 3) := by decide +kernel
theorem dL_law_2298 : decode cL_law 2298 = .ok (.aload_n 1, 1) := by decide +kernel
theorem dL_law_2299 : decode cL_law 2299 = .ok (.aload_n 0, 1) := by decide +kernel
theorem dL_law_2300 : decode cL_law 2300 = .ok (.iload 5, 2) := by decide +kernel
theorem dL_law_2302 : decode cL_law 2302 = .ok (.iconst 1, 1) := by decide +kernel
theorem dL_law_2303 : decode cL_law 2303 = .ok (.iadd, 1) := by decide +kernel
theorem dL_law_2304 : decode cL_law 2304 = .ok (.iaload, 1) := by decide +kernel
theorem dL_law_2305 : decode cL_law 2305 = .ok (.aload_n 0, 1) := by decide +kernel
theorem dL_law_2306 : decode cL_law 2306 = .ok (.iload 5, 2) := by decide +kernel
theorem dL_law_2308 : decode cL_law 2308 = .ok (.iconst 2, 1) := by decide +kernel
theorem dL_law_2309 : decode cL_law 2309 = .ok (.iadd, 1) := by decide +kernel
theorem dL_law_2310 : decode cL_law 2310 = .ok (.iaload, 1) := by decide +kernel
theorem dL_law_2311 : decode cL_law 2311 = .ok (.aload_n 3, 1) := by decide +kernel
theorem dL_law_2312 : decode cL_law 2312 = .ok (.invokestatic 273, 3) := by decide +kernel
theorem dL_law_2315 : decode cL_law 2315 = .ok (.istore 6, 2) := by decide +kernel
theorem dL_law_2317 : decode cL_law 2317 = .ok (.aload_n 2, 1) := by decide +kernel
theorem dL_law_2318 : decode cL_law 2318 = .ok (.aload_n 0, 1) := by decide +kernel
theorem dL_law_2319 : decode cL_law 2319 = .ok (.iload 5, 2) := by decide +kernel
theorem dL_law_2321 : decode cL_law 2321 = .ok (.iconst 1, 1) := by decide +kernel
theorem dL_law_2322 : decode cL_law 2322 = .ok (.iadd, 1) := by decide +kernel
theorem dL_law_2323 : decode cL_law 2323 = .ok (.iaload, 1) := by decide +kernel
theorem dL_law_2324 : decode cL_law 2324 = .ok (.aload_n 0, 1) := by decide +kernel
theorem dL_law_2325 : decode cL_law 2325 = .ok (.iload 5, 2) := by decide +kernel
theorem dL_law_2327 : decode cL_law 2327 = .ok (.iconst 2, 1) := by decide +kernel
theorem dL_law_2328 : decode cL_law 2328 = .ok (.iadd, 1) := by decide +kernel
theorem dL_law_2329 : decode cL_law 2329 = .ok (.iaload, 1) := by decide +kernel
theorem dL_law_2330 : decode cL_law 2330 = .ok (.invokevirtual 275, 3) := by decide +kernel
theorem dL_law_2333 : decode cL_law 2333 = .ok (.istore 7, 2) := by decide +kernel
theorem dL_law_2335 : decode cL_law 2335 = .ok (.aload_n 2, 1) := by decide +kernel
theorem dL_law_2336 : decode cL_law 2336 = .ok (.invokevirtual 161, 3) := by decide +kernel
theorem dL_law_2339 : decode cL_law 2339 = .ok (.iload 6, 2) := by decide +kernel
theorem dL_law_2341 : decode cL_law 2341 = .ok (.if_icmp .eq 5, 3) := by decide +kernel
theorem dL_law_2344 : decode cL_law 2344 = .ok (.iconst 0, 1) := by decide +kernel
theorem dL_law_2345 : decode cL_law 2345 = .ok (.ireturn, 1) := by decide +kernel
theorem dL_law_2346 : decode cL_law 2346 = .ok (.iload 6, 2) := by decide +kernel
theorem dL_law_2348 : decode cL_law 2348 = .ok (.ifCond .ne 15, 3) := by decide +kernel
theorem dL_law_2351 : decode cL_law 2351 = .ok (.aload_n 3, 1) := by decide +kernel
theorem dL_law_2352 : decode cL_law 2352 = .ok (.iconst 0, 1) := by decide +kernel
theorem dL_law_2353 : decode cL_law 2353 = .ok (.laload, 1) := by decide +kernel
theorem dL_law_2354 : decode cL_law 2354 = .ok (.iload 7, 2) := by decide +kernel
theorem dL_law_2356 : decode cL_law 2356 = .ok (.i2l, 1) := by decide +kernel
theorem dL_law_2357 : decode cL_law 2357 = .ok (.lcmp, 1) := by decide +kernel
theorem dL_law_2358 : decode cL_law 2358 = .ok (.ifCond .eq 5, 3) := by decide +kernel
theorem dL_law_2361 : decode cL_law 2361 = .ok (.iconst 0, 1) := by decide +kernel
theorem dL_law_2362 : decode cL_law 2362 = .ok (.ireturn, 1) := by decide +kernel
theorem dL_law_2363 : decode cL_law 2363 = .ok (.goto 453, 3) := by decide +kernel
theorem dL_law_2366 : decode cL_law 2366 = .ok (.aload_n 1, 1) := by decide +kernel
theorem dL_law_2367 : decode cL_law 2367 = .ok (.aload_n 0, 1) := by decide +kernel
theorem dL_law_2368 : decode cL_law 2368 = .ok (.iload 5, 2) := by decide +kernel
theorem dL_law_2370 : decode cL_law 2370 = .ok (.iconst 1, 1) := by decide +kernel
theorem dL_law_2371 : decode cL_law 2371 = .ok (.iadd, 1) := by decide +kernel
theorem dL_law_2372 : decode cL_law 2372 = .ok (.iaload, 1) := by decide +kernel
theorem dL_law_2373 : decode cL_law 2373 = .ok (.aload_n 0, 1) := by decide +kernel
theorem dL_law_2374 : decode cL_law 2374 = .ok (.iload 5, 2) := by decide +kernel
theorem dL_law_2376 : decode cL_law 2376 = .ok (.iconst 2, 1) := by decide +kernel
theorem dL_law_2377 : decode cL_law 2377 = .ok (.iadd, 1) := by decide +kernel
theorem dL_law_2378 : decode cL_law 2378 = .ok (.iaload, 1) := by decide +kernel
theorem dL_law_2379 : decode cL_law 2379 = .ok (.aload_n 3, 1) := by decide +kernel
theorem dL_law_2380 : decode cL_law 2380 = .ok (.invokestatic 276, 3) := by decide +kernel
theorem dL_law_2383 : decode cL_law 2383 = .ok (.istore 6, 2) := by decide +kernel
theorem dL_law_2385 : decode cL_law 2385 = .ok (.aload_n 2, 1) := by decide +kernel
theorem dL_law_2386 : decode cL_law 2386 = .ok (.aload_n 0, 1) := by decide +kernel
theorem dL_law_2387 : decode cL_law 2387 = .ok (.iload 5, 2) := by decide +kernel
theorem dL_law_2389 : decode cL_law 2389 = .ok (.iconst 1, 1) := by decide +kernel
theorem dL_law_2390 : decode cL_law 2390 = .ok (.iadd, 1) := by decide +kernel
theorem dL_law_2391 : decode cL_law 2391 = .ok (.iaload, 1) := by decide +kernel
theorem dL_law_2392 : decode cL_law 2392 = .ok (.aload_n 0, 1) := by decide +kernel
theorem dL_law_2393 : decode cL_law 2393 = .ok (.iload 5, 2) := by decide +kernel
theorem dL_law_2395 : decode cL_law 2395 = .ok (.iconst 2, 1) := by decide +kernel
theorem dL_law_2396 : decode cL_law 2396 = .ok (.iadd, 1) := by decide +kernel
theorem dL_law_2397 : decode cL_law 2397 = .ok (.iaload, 1) := by decide +kernel
theorem dL_law_2398 : decode cL_law 2398 = .ok (.invokevirtual 278, 3) := by decide +kernel
theorem dL_law_2401 : decode cL_law 2401 = .ok (.istore 7, 2) := by decide +kernel
theorem dL_law_2403 : decode cL_law 2403 = .ok (.aload_n 2, 1) := by decide +kernel
theorem dL_law_2404 : decode cL_law 2404 = .ok (.invokevirtual 161, 3) := by decide +kernel
theorem dL_law_2407 : decode cL_law 2407 = .ok (.iload 6, 2) := by decide +kernel
theorem dL_law_2409 : decode cL_law 2409 = .ok (.if_icmp .eq 5, 3) := by decide +kernel
theorem dL_law_2412 : decode cL_law 2412 = .ok (.iconst 0, 1) := by decide +kernel
theorem dL_law_2413 : decode cL_law 2413 = .ok (.ireturn, 1) := by decide +kernel
theorem dL_law_2414 : decode cL_law 2414 = .ok (.iload 6, 2) := by decide +kernel
theorem dL_law_2416 : decode cL_law 2416 = .ok (.ifCond .ne 15, 3) := by decide +kernel
theorem dL_law_2419 : decode cL_law 2419 = .ok (.aload_n 3, 1) := by decide +kernel
theorem dL_law_2420 : decode cL_law 2420 = .ok (.iconst 0, 1) := by decide +kernel
theorem dL_law_2421 : decode cL_law 2421 = .ok (.laload, 1) := by decide +kernel
theorem dL_law_2422 : decode cL_law 2422 = .ok (.iload 7, 2) := by decide +kernel
theorem dL_law_2424 : decode cL_law 2424 = .ok (.i2l, 1) := by decide +kernel
theorem dL_law_2425 : decode cL_law 2425 = .ok (.lcmp, 1) := by decide +kernel
theorem dL_law_2426 : decode cL_law 2426 = .ok (.ifCond .eq 5, 3) := by decide +kernel
theorem dL_law_2429 : decode cL_law 2429 = .ok (.iconst 0, 1) := by decide +kernel
theorem dL_law_2430 : decode cL_law 2430 = .ok (.ireturn, 1) := by decide +kernel
theorem dL_law_2431 : decode cL_law 2431 = .ok (.goto 385, 3) := by decide +kernel
theorem dL_law_2434 : decode cL_law 2434 = .ok (.aload_n 1, 1) := by decide +kernel
theorem dL_law_2435 : decode cL_law 2435 = .ok (.aload_n 0, 1) := by decide +kernel
theorem dL_law_2436 : decode cL_law 2436 = .ok (.iload 5, 2) := by decide +kernel
theorem dL_law_2438 : decode cL_law 2438 = .ok (.iconst 1, 1) := by decide +kernel
theorem dL_law_2439 : decode cL_law 2439 = .ok (.iadd, 1) := by decide +kernel
theorem dL_law_2440 : decode cL_law 2440 = .ok (.iaload, 1) := by decide +kernel
theorem dL_law_2441 : decode cL_law 2441 = .ok (.aload_n 3, 1) := by decide +kernel
theorem dL_law_2442 : decode cL_law 2442 = .ok (.invokestatic 279, 3) := by decide +kernel
theorem dL_law_2445 : decode cL_law 2445 = .ok (.istore 6, 2) := by decide +kernel
theorem dL_law_2447 : decode cL_law 2447 = .ok (.aload_n 2, 1) := by decide +kernel
theorem dL_law_2448 : decode cL_law 2448 = .ok (.aload_n 0, 1) := by decide +kernel
theorem dL_law_2449 : decode cL_law 2449 = .ok (.iload 5, 2) := by decide +kernel
theorem dL_law_2451 : decode cL_law 2451 = .ok (.iconst 1, 1) := by decide +kernel
theorem dL_law_2452 : decode cL_law 2452 = .ok (.iadd, 1) := by decide +kernel
theorem dL_law_2453 : decode cL_law 2453 = .ok (.iaload, 1) := by decide +kernel
theorem dL_law_2454 : decode cL_law 2454 = .ok (.invokevirtual 281, 3) := by decide +kernel
theorem dL_law_2457 : decode cL_law 2457 = .ok (.istore 7, 2) := by decide +kernel
theorem dL_law_2459 : decode cL_law 2459 = .ok (.aload_n 2, 1) := by decide +kernel
theorem dL_law_2460 : decode cL_law 2460 = .ok (.invokevirtual 161, 3) := by decide +kernel
theorem dL_law_2463 : decode cL_law 2463 = .ok (.iload 6, 2) := by decide +kernel
theorem dL_law_2465 : decode cL_law 2465 = .ok (.if_icmp .eq 5, 3) := by decide +kernel
theorem dL_law_2468 : decode cL_law 2468 = .ok (.iconst 0, 1) := by decide +kernel
theorem dL_law_2469 : decode cL_law 2469 = .ok (.ireturn, 1) := by decide +kernel
theorem dL_law_2470 : decode cL_law 2470 = .ok (.iload 6, 2) := by decide +kernel
theorem dL_law_2472 : decode cL_law 2472 = .ok (.ifCond .ne 15, 3) := by decide +kernel
theorem dL_law_2475 : decode cL_law 2475 = .ok (.aload_n 3, 1) := by decide +kernel
theorem dL_law_2476 : decode cL_law 2476 = .ok (.iconst 0, 1) := by decide +kernel
theorem dL_law_2477 : decode cL_law 2477 = .ok (.laload, 1) := by decide +kernel
theorem dL_law_2478 : decode cL_law 2478 = .ok (.iload 7, 2) := by decide +kernel
theorem dL_law_2480 : decode cL_law 2480 = .ok (.i2l, 1) := by decide +kernel
theorem dL_law_2481 : decode cL_law 2481 = .ok (.lcmp, 1) := by decide +kernel
theorem dL_law_2482 : decode cL_law 2482 = .ok (.ifCond .eq 5, 3) := by decide +kernel
theorem dL_law_2485 : decode cL_law 2485 = .ok (.iconst 0, 1) := by decide +kernel
theorem dL_law_2486 : decode cL_law 2486 = .ok (.ireturn, 1) := by decide +kernel
theorem dL_law_2487 : decode cL_law 2487 = .ok (.goto 329, 3) := by decide +kernel
theorem dL_law_2490 : decode cL_law 2490 = .ok (.aload_n 1, 1) := by decide +kernel
theorem dL_law_2491 : decode cL_law 2491 = .ok (.aload_n 0, 1) := by decide +kernel
theorem dL_law_2492 : decode cL_law 2492 = .ok (.iload 5, 2) := by decide +kernel
theorem dL_law_2494 : decode cL_law 2494 = .ok (.iconst 1, 1) := by decide +kernel
theorem dL_law_2495 : decode cL_law 2495 = .ok (.iadd, 1) := by decide +kernel
theorem dL_law_2496 : decode cL_law 2496 = .ok (.iaload, 1) := by decide +kernel
theorem dL_law_2497 : decode cL_law 2497 = .ok (.aload_n 3, 1) := by decide +kernel
theorem dL_law_2498 : decode cL_law 2498 = .ok (.invokestatic 282, 3) := by decide +kernel
theorem dL_law_2501 : decode cL_law 2501 = .ok (.istore 6, 2) := by decide +kernel
theorem dL_law_2503 : decode cL_law 2503 = .ok (.aload_n 2, 1) := by decide +kernel
theorem dL_law_2504 : decode cL_law 2504 = .ok (.aload_n 0, 1) := by decide +kernel
theorem dL_law_2505 : decode cL_law 2505 = .ok (.iload 5, 2) := by decide +kernel
theorem dL_law_2507 : decode cL_law 2507 = .ok (.iconst 1, 1) := by decide +kernel
theorem dL_law_2508 : decode cL_law 2508 = .ok (.iadd, 1) := by decide +kernel
theorem dL_law_2509 : decode cL_law 2509 = .ok (.iaload, 1) := by decide +kernel
theorem dL_law_2510 : decode cL_law 2510 = .ok (.invokevirtual 284, 3) := by decide +kernel
theorem dL_law_2513 : decode cL_law 2513 = .ok (.istore 7, 2) := by decide +kernel
theorem dL_law_2515 : decode cL_law 2515 = .ok (.aload_n 2, 1) := by decide +kernel
theorem dL_law_2516 : decode cL_law 2516 = .ok (.invokevirtual 161, 3) := by decide +kernel
theorem dL_law_2519 : decode cL_law 2519 = .ok (.iload 6, 2) := by decide +kernel
theorem dL_law_2521 : decode cL_law 2521 = .ok (.if_icmp .eq 5, 3) := by decide +kernel
theorem dL_law_2524 : decode cL_law 2524 = .ok (.iconst 0, 1) := by decide +kernel
theorem dL_law_2525 : decode cL_law 2525 = .ok (.ireturn, 1) := by decide +kernel
theorem dL_law_2526 : decode cL_law 2526 = .ok (.iload 6, 2) := by decide +kernel
theorem dL_law_2528 : decode cL_law 2528 = .ok (.ifCond .ne 15, 3) := by decide +kernel
theorem dL_law_2531 : decode cL_law 2531 = .ok (.aload_n 3, 1) := by decide +kernel
theorem dL_law_2532 : decode cL_law 2532 = .ok (.iconst 0, 1) := by decide +kernel
theorem dL_law_2533 : decode cL_law 2533 = .ok (.laload, 1) := by decide +kernel
theorem dL_law_2534 : decode cL_law 2534 = .ok (.iload 7, 2) := by decide +kernel
theorem dL_law_2536 : decode cL_law 2536 = .ok (.i2l, 1) := by decide +kernel
theorem dL_law_2537 : decode cL_law 2537 = .ok (.lcmp, 1) := by decide +kernel
theorem dL_law_2538 : decode cL_law 2538 = .ok (.ifCond .eq 5, 3) := by decide +kernel
theorem dL_law_2541 : decode cL_law 2541 = .ok (.iconst 0, 1) := by decide +kernel
theorem dL_law_2542 : decode cL_law 2542 = .ok (.ireturn, 1) := by decide +kernel
theorem dL_law_2543 : decode cL_law 2543 = .ok (.goto 273, 3) := by decide +kernel
theorem dL_law_2546 : decode cL_law 2546 = .ok (.aload_n 1, 1) := by decide +kernel
theorem dL_law_2547 : decode cL_law 2547 = .ok (.aload_n 0, 1) := by decide +kernel
theorem dL_law_2548 : decode cL_law 2548 = .ok (.iload 5, 2) := by decide +kernel
theorem dL_law_2550 : decode cL_law 2550 = .ok (.iconst 1, 1) := by decide +kernel
theorem dL_law_2551 : decode cL_law 2551 = .ok (.iadd, 1) := by decide +kernel
theorem dL_law_2552 : decode cL_law 2552 = .ok (.iaload, 1) := by decide +kernel
theorem dL_law_2553 : decode cL_law 2553 = .ok (.aload_n 0, 1) := by decide +kernel
theorem dL_law_2554 : decode cL_law 2554 = .ok (.iload 5, 2) := by decide +kernel
theorem dL_law_2556 : decode cL_law 2556 = .ok (.iconst 2, 1) := by decide +kernel
theorem dL_law_2557 : decode cL_law 2557 = .ok (.iadd, 1) := by decide +kernel
theorem dL_law_2558 : decode cL_law 2558 = .ok (.iaload, 1) := by decide +kernel
theorem dL_law_2559 : decode cL_law 2559 = .ok (.aload_n 3, 1) := by decide +kernel
theorem dL_law_2560 : decode cL_law 2560 = .ok (.invokestatic 285, 3) := by decide +kernel
theorem dL_law_2563 : decode cL_law 2563 = .ok (.istore 6, 2) := by decide +kernel
theorem dL_law_2565 : decode cL_law 2565 = .ok (.aload_n 2, 1) := by decide +kernel
theorem dL_law_2566 : decode cL_law 2566 = .ok (.aload_n 0, 1) := by decide +kernel
theorem dL_law_2567 : decode cL_law 2567 = .ok (.iload 5, 2) := by decide +kernel
theorem dL_law_2569 : decode cL_law 2569 = .ok (.iconst 1, 1) := by decide +kernel
theorem dL_law_2570 : decode cL_law 2570 = .ok (.iadd, 1) := by decide +kernel
theorem dL_law_2571 : decode cL_law 2571 = .ok (.iaload, 1) := by decide +kernel
theorem dL_law_2572 : decode cL_law 2572 = .ok (.aload_n 0, 1) := by decide +kernel
theorem dL_law_2573 : decode cL_law 2573 = .ok (.iload 5, 2) := by decide +kernel
theorem dL_law_2575 : decode cL_law 2575 = .ok (.iconst 2, 1) := by decide +kernel
theorem dL_law_2576 : decode cL_law 2576 = .ok (.iadd, 1) := by decide +kernel
theorem dL_law_2577 : decode cL_law 2577 = .ok (.iaload, 1) := by decide +kernel
theorem dL_law_2578 : decode cL_law 2578 = .ok (.invokevirtual 287, 3) := by decide +kernel
theorem dL_law_2581 : decode cL_law 2581 = .ok (.istore 7, 2) := by decide +kernel
theorem dL_law_2583 : decode cL_law 2583 = .ok (.aload_n 2, 1) := by decide +kernel
theorem dL_law_2584 : decode cL_law 2584 = .ok (.invokevirtual 161, 3) := by decide +kernel
theorem dL_law_2587 : decode cL_law 2587 = .ok (.iload 6, 2) := by decide +kernel
theorem dL_law_2589 : decode cL_law 2589 = .ok (.if_icmp .eq 5, 3) := by decide +kernel
theorem dL_law_2592 : decode cL_law 2592 = .ok (.iconst 0, 1) := by decide +kernel
theorem dL_law_2593 : decode cL_law 2593 = .ok (.ireturn, 1) := by decide +kernel
theorem dL_law_2594 : decode cL_law 2594 = .ok (.iload 6, 2) := by decide +kernel
theorem dL_law_2596 : decode cL_law 2596 = .ok (.ifCond .ne 15, 3) := by decide +kernel
theorem dL_law_2599 : decode cL_law 2599 = .ok (.aload_n 3, 1) := by decide +kernel
theorem dL_law_2600 : decode cL_law 2600 = .ok (.iconst 0, 1) := by decide +kernel
theorem dL_law_2601 : decode cL_law 2601 = .ok (.laload, 1) := by decide +kernel
theorem dL_law_2602 : decode cL_law 2602 = .ok (.iload 7, 2) := by decide +kernel
theorem dL_law_2604 : decode cL_law 2604 = .ok (.i2l, 1) := by decide +kernel
theorem dL_law_2605 : decode cL_law 2605 = .ok (.lcmp, 1) := by decide +kernel
theorem dL_law_2606 : decode cL_law 2606 = .ok (.ifCond .eq 5, 3) := by decide +kernel
theorem dL_law_2609 : decode cL_law 2609 = .ok (.iconst 0, 1) := by decide +kernel
theorem dL_law_2610 : decode cL_law 2610 = .ok (.ireturn, 1) := by decide +kernel
theorem dL_law_2611 : decode cL_law 2611 = .ok (.goto 205, 3) := by decide +kernel
theorem dL_law_2614 : decode cL_law 2614 = .ok (.aload_n 1, 1) := by decide +kernel
theorem dL_law_2615 : decode cL_law 2615 = .ok (.aload_n 3, 1) := by decide +kernel
theorem dL_law_2616 : decode cL_law 2616 = .ok (.invokestatic 288, 3) := by decide +kernel
theorem dL_law_2619 : decode cL_law 2619 = .ok (.istore 6, 2) := by decide +kernel
theorem dL_law_2621 : decode cL_law 2621 = .ok (.aload_n 2, 1) := by decide +kernel
theorem dL_law_2622 : decode cL_law 2622 = .ok (.invokevirtual 290, 3) := by decide +kernel
theorem dL_law_2625 : decode cL_law 2625 = .ok (.istore 7, 2) := by decide +kernel
theorem dL_law_2627 : decode cL_law 2627 = .ok (.aload_n 2, 1) := by decide +kernel
theorem dL_law_2628 : decode cL_law 2628 = .ok (.invokevirtual 161, 3) := by decide +kernel
theorem dL_law_2631 : decode cL_law 2631 = .ok (.iload 6, 2) := by decide +kernel
theorem dL_law_2633 : decode cL_law 2633 = .ok (.if_icmp .eq 5, 3) := by decide +kernel
theorem dL_law_2636 : decode cL_law 2636 = .ok (.iconst 0, 1) := by decide +kernel
theorem dL_law_2637 : decode cL_law 2637 = .ok (.ireturn, 1) := by decide +kernel
theorem dL_law_2638 : decode cL_law 2638 = .ok (.iload 6, 2) := by decide +kernel
theorem dL_law_2640 : decode cL_law 2640 = .ok (.ifCond .ne 15, 3) := by decide +kernel
theorem dL_law_2643 : decode cL_law 2643 = .ok (.aload_n 3, 1) := by decide +kernel
theorem dL_law_2644 : decode cL_law 2644 = .ok (.iconst 0, 1) := by decide +kernel
theorem dL_law_2645 : decode cL_law 2645 = .ok (.laload, 1) := by decide +kernel
theorem dL_law_2646 : decode cL_law 2646 = .ok (.iload 7, 2) := by decide +kernel
theorem dL_law_2648 : decode cL_law 2648 = .ok (.i2l, 1) := by decide +kernel
theorem dL_law_2649 : decode cL_law 2649 = .ok (.lcmp, 1) := by decide +kernel
theorem dL_law_2650 : decode cL_law 2650 = .ok (.ifCond .eq 5, 3) := by decide +kernel
theorem dL_law_2653 : decode cL_law 2653 = .ok (.iconst 0, 1) := by decide +kernel
theorem dL_law_2654 : decode cL_law 2654 = .ok (.ireturn, 1) := by decide +kernel
theorem dL_law_2655 : decode cL_law 2655 = .ok (.goto 161, 3) := by decide +kernel
theorem dL_law_2658 : decode cL_law 2658 = .ok (.aload_n 1, 1) := by decide +kernel
theorem dL_law_2659 : decode cL_law 2659 = .ok (.invokevirtual 291, 3) := by decide +kernel
theorem dL_law_2662 : decode cL_law 2662 = .ok (.aload_n 2, 1) := by decide +kernel
theorem dL_law_2663 : decode cL_law 2663 = .ok (.invokevirtual 295, 3) := by decide +kernel
theorem dL_law_2666 : decode cL_law 2666 = .ok (.lcmp, 1) := by decide +kernel
theorem dL_law_2667 : decode cL_law 2667 = .ok (.ifCond .eq 149, 3) := by decide +kernel
theorem dL_law_2670 : decode cL_law 2670 = .ok (.iconst 0, 1) := by decide +kernel
theorem dL_law_2671 : decode cL_law 2671 = .ok (.ireturn, 1) := by decide +kernel
theorem dL_law_2672 : decode cL_law 2672 = .ok (.aload_n 1, 1) := by decide +kernel
theorem dL_law_2673 : decode cL_law 2673 = .ok (.aload 4, 2) := by decide +kernel
theorem dL_law_2675 : decode cL_law 2675 = .ok (.invokestatic 296, 3) := by decide +kernel
theorem dL_law_2678 : decode cL_law 2678 = .ok (.istore 6, 2) := by decide +kernel
theorem dL_law_2680 : decode cL_law 2680 = .ok (.aload_n 2, 1) := by decide +kernel
theorem dL_law_2681 : decode cL_law 2681 = .ok (.invokevirtual 299, 3) := by decide +kernel
theorem dL_law_2684 : decode cL_law 2684 = .ok (.fstore 7, 2) := by decide +kernel
theorem dL_law_2686 : decode cL_law 2686 = .ok (.aload_n 2, 1) := by decide +kernel
theorem dL_law_2687 : decode cL_law 2687 = .ok (.invokevirtual 161, 3) := by decide +kernel
theorem dL_law_2690 : decode cL_law 2690 = .ok (.iload 6, 2) := by decide +kernel
theorem dL_law_2692 : decode cL_law 2692 = .ok (.if_icmp .eq 5, 3) := by decide +kernel
theorem dL_law_2695 : decode cL_law 2695 = .ok (.iconst 0, 1) := by decide +kernel
theorem dL_law_2696 : decode cL_law 2696 = .ok (.ireturn, 1) := by decide +kernel
theorem dL_law_2697 : decode cL_law 2697 = .ok (.iload 6, 2) := by decide +kernel
theorem dL_law_2699 : decode cL_law 2699 = .ok (.ifCond .ne 36, 3) := by decide +kernel
theorem dL_law_2702 : decode cL_law 2702 = .ok (.aload 4, 2) := by decide +kernel
theorem dL_law_2704 : decode cL_law 2704 = .ok (.iconst 0, 1) := by decide +kernel
theorem dL_law_2705 : decode cL_law 2705 = .ok (.daload, 1) := by decide +kernel
theorem dL_law_2706 : decode cL_law 2706 = .ok (.fload 7, 2) := by decide +kernel
theorem dL_law_2708 : decode cL_law 2708 = .ok (.f2d, 1) := by decide +kernel
theorem dL_law_2709 : decode cL_law 2709 = .ok (.dcmp .l, 1) := by decide +kernel
theorem dL_law_2710 : decode cL_law 2710 = .ok (.ifCond .eq 25, 3) := by decide +kernel
theorem dL_law_2713 : decode cL_law 2713 = .ok (.aload 4, 2) := by decide +kernel
theorem dL_law_2715 : decode cL_law 2715 = .ok (.iconst 0, 1) := by decide +kernel
theorem dL_law_2716 : decode cL_law 2716 = .ok (.daload, 1) := by decide +kernel
theorem dL_law_2717 : decode cL_law 2717 = .ok (.aload 4, 2) := by decide +kernel
theorem dL_law_2719 : decode cL_law 2719 = .ok (.iconst 0, 1) := by decide +kernel
theorem dL_law_2720 : decode cL_law 2720 = .ok (.daload, 1) := by decide +kernel
theorem dL_law_2721 : decode cL_law 2721 = .ok (.dcmp .l, 1) := by decide +kernel
theorem dL_law_2722 : decode cL_law 2722 = .ok (.ifCond .eq 11, 3) := by decide +kernel
theorem dL_law_2725 : decode cL_law 2725 = .ok (.fload 7, 2) := by decide +kernel
theorem dL_law_2727 : decode cL_law 2727 = .ok (.fload 7, 2) := by decide +kernel
theorem dL_law_2729 : decode cL_law 2729 = .ok (.fcmp .l, 1) := by decide +kernel
theorem dL_law_2730 : decode cL_law 2730 = .ok (.ifCond .ne 5, 3) := by decide +kernel
theorem dL_law_2733 : decode cL_law 2733 = .ok (.iconst 0, 1) := by decide +kernel
theorem dL_law_2734 : decode cL_law 2734 = .ok (.ireturn, 1) := by decide +kernel
theorem dL_law_2735 : decode cL_law 2735 = .ok (.goto 81, 3) := by decide +kernel
theorem dL_law_2738 : decode cL_law 2738 = .ok (.aload_n 1, 1) := by decide +kernel
theorem dL_law_2739 : decode cL_law 2739 = .ok (.aload 4, 2) := by decide +kernel
theorem dL_law_2741 : decode cL_law 2741 = .ok (.invokestatic 300, 3) := by decide +kernel
theorem dL_law_2744 : decode cL_law 2744 = .ok (.istore 6, 2) := by decide +kernel
theorem dL_law_2746 : decode cL_law 2746 = .ok (.aload_n 2, 1) := by decide +kernel
theorem dL_law_2747 : decode cL_law 2747 = .ok (.invokevirtual 302, 3) := by decide +kernel
theorem dL_law_2750 : decode cL_law 2750 = .ok (.dstore 7, 2) := by decide +kernel
theorem dL_law_2752 : decode cL_law 2752 = .ok (.aload_n 2, 1) := by decide +kernel
theorem dL_law_2753 : decode cL_law 2753 = .ok (.invokevirtual 161, 3) := by decide +kernel
theorem dL_law_2756 : decode cL_law 2756 = .ok (.iload 6, 2) := by decide +kernel
theorem dL_law_2758 : decode cL_law 2758 = .ok (.if_icmp .eq 5, 3) := by decide +kernel
theorem dL_law_2761 : decode cL_law 2761 = .ok (.iconst 0, 1) := by decide +kernel
theorem dL_law_2762 : decode cL_law 2762 = .ok (.ireturn, 1) := by decide +kernel
theorem dL_law_2763 : decode cL_law 2763 = .ok (.iload 6, 2) := by decide +kernel
theorem dL_law_2765 : decode cL_law 2765 = .ok (.ifCond .ne 35, 3) := by decide +kernel
theorem dL_law_2768 : decode cL_law 2768 = .ok (.aload 4, 2) := by decide +kernel
theorem dL_law_2770 : decode cL_law 2770 = .ok (.iconst 0, 1) := by decide +kernel
theorem dL_law_2771 : decode cL_law 2771 = .ok (.daload, 1) := by decide +kernel
theorem dL_law_2772 : decode cL_law 2772 = .ok (.dload 7, 2) := by decide +kernel
theorem dL_law_2774 : decode cL_law 2774 = .ok (.dcmp .l, 1) := by decide +kernel
theorem dL_law_2775 : decode cL_law 2775 = .ok (.ifCond .eq 25, 3) := by decide +kernel
theorem dL_law_2778 : decode cL_law 2778 = .ok (.aload 4, 2) := by decide +kernel
theorem dL_law_2780 : decode cL_law 2780 = .ok (.iconst 0, 1) := by decide +kernel
theorem dL_law_2781 : decode cL_law 2781 = .ok (.daload, 1) := by decide +kernel
theorem dL_law_2782 : decode cL_law 2782 = .ok (.aload 4, 2) := by decide +kernel
theorem dL_law_2784 : decode cL_law 2784 = .ok (.iconst 0, 1) := by decide +kernel
theorem dL_law_2785 : decode cL_law 2785 = .ok (.daload, 1) := by decide +kernel
theorem dL_law_2786 : decode cL_law 2786 = .ok (.dcmp .l, 1) := by decide +kernel
theorem dL_law_2787 : decode cL_law 2787 = .ok (.ifCond .eq 11, 3) := by decide +kernel
theorem dL_law_2790 : decode cL_law 2790 = .ok (.dload 7, 2) := by decide +kernel
theorem dL_law_2792 : decode cL_law 2792 = .ok (.dload 7, 2) := by decide +kernel
theorem dL_law_2794 : decode cL_law 2794 = .ok (.dcmp .l, 1) := by decide +kernel
theorem dL_law_2795 : decode cL_law 2795 = .ok (.ifCond .ne 5, 3) := by decide +kernel
theorem dL_law_2798 : decode cL_law 2798 = .ok (.iconst 0, 1) := by decide +kernel
theorem dL_law_2799 : decode cL_law 2799 = .ok (.ireturn, 1) := by decide +kernel
theorem dL_law_2800 : decode cL_law 2800 = .ok (.goto 16, 3) := by decide +kernel
theorem dL_law_2803 : decode cL_law 2803 = .ok (.aload_n 1, 1) := by decide +kernel
theorem dL_law_2804 : decode cL_law 2804 = .ok (.invokevirtual 303, 3) := by decide +kernel
theorem dL_law_2807 : decode cL_law 2807 = .ok (.aload_n 2, 1) := by decide +kernel
theorem dL_law_2808 : decode cL_law 2808 = .ok (.invokevirtual 307, 3) := by decide +kernel
theorem dL_law_2811 : decode cL_law 2811 = .ok (.if_icmp .eq 5, 3) := by decide +kernel
theorem dL_law_2814 : decode cL_law 2814 = .ok (.iconst 0, 1) := by decide +kernel
theorem dL_law_2815 : decode cL_law 2815 = .ok (.ireturn, 1) := by decide +kernel
theorem dL_law_2816 : decode cL_law 2816 = .ok (.iinc 5 5, 3) := by decide +kernel
theorem dL_law_2819 : decode cL_law 2819 = .ok (.goto (-2791), 3) := by decide +kernel
theorem dL_law_2822 : decode cL_law 2822 = .ok (.iconst 1, 1) := by decide +kernel
theorem dL_law_2823 : decode cL_law 2823 = .ok (.ireturn, 1) := by decide +kernel
end
section
theorem dX0_init_0 : decode cX0_init 0 = .ok (.aload_n 0, 1) := by decide +kernel
theorem dX0_init_1 : decode cX0_init 1 = .ok (.invokespecial 3, 3) := by decide +kernel
theorem dX0_init_4 : decode cX0_init 4 = .ok (.aload_n 0, 1) := by decide +kernel
theorem dX0_init_5 : decode cX0_init 5 = .ok (.iload_n 1, 1) := by decide +kernel
theorem dX0_init_6 : decode cX0_init 6 = .ok (.putfield 9, 3) := by decide +kernel
theorem dX0_init_9 : decode cX0_init 9 = .ok (.aload_n 0, 1) := by decide +kernel
theorem dX0_init_10 : decode cX0_init 10 = .ok (.iload_n 2, 1) := by decide +kernel
theorem dX0_init_11 : decode cX0_init 11 = .ok (.putfield 15, 3) := by decide +kernel
theorem dX0_init_14 : decode cX0_init 14 = .ok (.aload_n 0, 1) := by decide +kernel
theorem dX0_init_15 : decode cX0_init 15 = .ok (.iload_n 3, 1) := by decide +kernel
theorem dX0_init_16 : decode cX0_init 16 = .ok (.putfield 18, 3) := by decide +kernel
theorem dX0_init_19 : decode cX0_init 19 = .ok (.aload_n 0, 1) := by decide +kernel
theorem dX0_init_20 : decode cX0_init 20 = .ok (.iload 4, 2) := by decide +kernel
theorem dX0_init_22 : decode cX0_init 22 = .ok (.putfield 21, 3) := by decide +kernel
theorem dX0_init_25 : decode cX0_init 25 = .ok (.aload_n 0, 1) := by decide +kernel
theorem dX0_init_26 : decode cX0_init 26 = .ok (.iload 5, 2) := by decide +kernel
theorem dX0_init_28 : decode cX0_init 28 = .ok (.putfield 24, 3) := by decide +kernel
theorem dX0_init_31 : decode cX0_init 31 = .ok (.aload_n 0, 1) := by decide +kernel
theorem dX0_init_32 : decode cX0_init 32 = .ok (.bipush 111, 2) := by decide +kernel
theorem dX0_init_34 : decode cX0_init 34 = .ok (.putfield 27, 3) := by decide +kernel
theorem dX0_init_37 : decode cX0_init 37 = .ok (.aload_n 0, 1) := by decide +kernel
theorem dX0_init_38 : decode cX0_init 38 = .ok (.iconst (-1), 1) := by decide +kernel
theorem dX0_init_39 : decode cX0_init 39 = .ok (.putfield 31, 3) := by decide +kernel
theorem dX0_init_42 : decode cX0_init 42 = .ok (.return_, 1) := by decide +kernel
theorem dX0_isOpenFor_0 : decode cX0_isOpenFor 0 = .ok (.aload_n 0, 1) := by decide +kernel
theorem dX0_isOpenFor_1 : decode cX0_isOpenFor 1 = .ok (.getfield 27, 3) := by decide +kernel
theorem dX0_isOpenFor_4 : decode cX0_isOpenFor 4 = .ok (.bipush 111, 2) := by decide +kernel
theorem dX0_isOpenFor_6 : decode cX0_isOpenFor 6 = .ok (.if_icmp .ne 15, 3) := by decide +kernel
theorem dX0_isOpenFor_9 : decode cX0_isOpenFor 9 = .ok (.aload_n 0, 1) := by decide +kernel
theorem dX0_isOpenFor_10 : decode cX0_isOpenFor 10 = .ok (.getfield 18, 3) := by decide +kernel
theorem dX0_isOpenFor_13 : decode cX0_isOpenFor 13 = .ok (.iload_n 1, 1) := by decide +kernel
theorem dX0_isOpenFor_14 : decode cX0_isOpenFor 14 = .ok (.if_icmp .ne 7, 3) := by decide +kernel
theorem dX0_isOpenFor_17 : decode cX0_isOpenFor 17 = .ok (.iconst 1, 1) := by decide +kernel
theorem dX0_isOpenFor_18 : decode cX0_isOpenFor 18 = .ok (.goto 4, 3) := by decide +kernel
theorem dX0_isOpenFor_21 : decode cX0_isOpenFor 21 = .ok (.iconst 0, 1) := by decide +kernel
theorem dX0_isOpenFor_22 : decode cX0_isOpenFor 22 = .ok (.ireturn, 1) := by decide +kernel
theorem dX1_init_0 : decode cX1_init 0 = .ok (.aload_n 0, 1) := by decide +kernel
theorem dX1_init_1 : decode cX1_init 1 = .ok (.invokespecial 3, 3) := by decide +kernel
theorem dX1_init_4 : decode cX1_init 4 = .ok (.aload_n 0, 1) := by decide +kernel
theorem dX1_init_5 : decode cX1_init 5 = .ok (.iload_n 1, 1) := by decide +kernel
theorem dX1_init_6 : decode cX1_init 6 = .ok (.putfield 9, 3) := by decide +kernel
theorem dX1_init_9 : decode cX1_init 9 = .ok (.aload_n 0, 1) := by decide +kernel
theorem dX1_init_10 : decode cX1_init 10 = .ok (.new 15, 3) := by decide +kernel
theorem dX1_init_13 : decode cX1_init 13 = .ok (.dup, 1) := by decide +kernel
theorem dX1_init_14 : decode cX1_init 14 = .ok (.invokespecial 17, 3) := by decide +kernel
theorem dX1_init_17 : decode cX1_init 17 = .ok (.putfield 18, 3) := by decide +kernel
theorem dX1_init_20 : decode cX1_init 20 = .ok (.aload_n 0, 1) := by decide +kernel
theorem dX1_init_21 : decode cX1_init 21 = .ok (.iconst (-1), 1) := by decide +kernel
theorem dX1_init_22 : decode cX1_init 22 = .ok (.putfield 22, 3) := by decide +kernel
theorem dX1_init_25 : decode cX1_init 25 = .ok (.aload_n 0, 1) := by decide +kernel
theorem dX1_init_26 : decode cX1_init 26 = .ok (.iconst (-1), 1) := by decide +kernel
theorem dX1_init_27 : decode cX1_init 27 = .ok (.putfield 25, 3) := by decide +kernel
theorem dX1_init_30 : decode cX1_init 30 = .ok (.return_, 1) := by decide +kernel
theorem dX1_keepFor_0 : decode cX1_keepFor 0 = .ok (.aload_n 0, 1) := by decide +kernel
theorem dX1_keepFor_1 : decode cX1_keepFor 1 = .ok (.iload_n 1, 1) := by decide +kernel
theorem dX1_keepFor_2 : decode cX1_keepFor 2 = .ok (.putfield 22, 3) := by decide +kernel
theorem dX1_keepFor_5 : decode cX1_keepFor 5 = .ok (.aload_n 0, 1) := by decide +kernel
theorem dX1_keepFor_6 : decode cX1_keepFor 6 = .ok (.iload_n 2, 1) := by decide +kernel
theorem dX1_keepFor_7 : decode cX1_keepFor 7 = .ok (.putfield 25, 3) := by decide +kernel
theorem dX1_keepFor_10 : decode cX1_keepFor 10 = .ok (.aload_n 0, 1) := by decide +kernel
theorem dX1_keepFor_11 : decode cX1_keepFor 11 = .ok (.getfield 18, 3) := by decide +kernel
theorem dX1_keepFor_14 : decode cX1_keepFor 14 = .ok (.iload_n 2, 1) := by decide +kernel
theorem dX1_keepFor_15 : decode cX1_keepFor 15 = .ok (.iconst (-1), 1) := by decide +kernel
theorem dX1_keepFor_16 : decode cX1_keepFor 16 = .ok (.invokevirtual 28, 3) := by decide +kernel
theorem dX1_keepFor_19 : decode cX1_keepFor 19 = .ok (.return_, 1) := by decide +kernel
theorem dX1_makeVoid_0 : decode cX1_makeVoid 0 = .ok (.aload_n 0, 1) := by decide +kernel
theorem dX1_makeVoid_1 : decode cX1_makeVoid 1 = .ok (.iconst (-1), 1) := by decide +kernel
theorem dX1_makeVoid_2 : decode cX1_makeVoid 2 = .ok (.putfield 22, 3) := by decide +kernel
theorem dX1_makeVoid_5 : decode cX1_makeVoid 5 = .ok (.aload_n 0, 1) := by decide +kernel
theorem dX1_makeVoid_6 : decode cX1_makeVoid 6 = .ok (.getfield 18, 3) := by decide +kernel
theorem dX1_makeVoid_9 : decode cX1_makeVoid 9 = .ok (.iload_n 1, 1) := by decide +kernel
theorem dX1_makeVoid_10 : decode cX1_makeVoid 10 = .ok (.iconst (-1), 1) := by decide +kernel
theorem dX1_makeVoid_11 : decode cX1_makeVoid 11 = .ok (.invokevirtual 28, 3) := by decide +kernel
theorem dX1_makeVoid_14 : decode cX1_makeVoid 14 = .ok (.return_, 1) := by decide +kernel
theorem dX1_isKept_0 : decode cX1_isKept 0 = .ok (.aload_n 0, 1) := by decide +kernel
theorem dX1_isKept_1 : decode cX1_isKept 1 = .ok (.getfield 22, 3) := by decide +kernel
theorem dX1_isKept_4 : decode cX1_isKept 4 = .ok (.iconst (-1), 1) := by decide +kernel
theorem dX1_isKept_5 : decode cX1_isKept 5 = .ok (.if_icmp .eq 15, 3) := by decide +kernel
theorem dX1_isKept_8 : decode cX1_isKept 8 = .ok (.iload_n 1, 1) := by decide +kernel
theorem dX1_isKept_9 : decode cX1_isKept 9 = .ok (.aload_n 0, 1) := by decide +kernel
theorem dX1_isKept_10 : decode cX1_isKept 10 = .ok (.invokevirtual 32, 3) := by decide +kernel
theorem dX1_isKept_13 : decode cX1_isKept 13 = .ok (.if_icmp .ge 7, 3) := by decide +kernel
theorem dX1_isKept_16 : decode cX1_isKept 16 = .ok (.iconst 1, 1) := by decide +kernel
theorem dX1_isKept_17 : decode cX1_isKept 17 = .ok (.goto 4, 3) := by decide +kernel
theorem dX1_isKept_20 : decode cX1_isKept 20 = .ok (.iconst 0, 1) := by decide +kernel
theorem dX1_isKept_21 : decode cX1_isKept 21 = .ok (.ireturn, 1) := by decide +kernel
theorem dX1_voidDay_0 : decode cX1_voidDay 0 = .ok (.aload_n 0, 1) := by decide +kernel
theorem dX1_voidDay_1 : decode cX1_voidDay 1 = .ok (.getfield 25, 3) := by decide +kernel
theorem dX1_voidDay_4 : decode cX1_voidDay 4 = .ok (.sipush 361, 3) := by decide +kernel
theorem dX1_voidDay_7 : decode cX1_voidDay 7 = .ok (.iadd, 1) := by decide +kernel
theorem dX1_voidDay_8 : decode cX1_voidDay 8 = .ok (.ireturn, 1) := by decide +kernel
theorem dX2_init_0 : decode cX2_init 0 = .ok (.aload_n 0, 1) := by decide +kernel
theorem dX2_init_1 : decode cX2_init 1 = .ok (.invokespecial 3, 3) := by decide +kernel
theorem dX2_init_4 : decode cX2_init 4 = .ok (.aload_n 0, 1) := by decide +kernel
theorem dX2_init_5 : decode cX2_init 5 = .ok (.iconst 4, 1) := by decide +kernel
theorem dX2_init_6 : decode cX2_init 6 = .ok (.newarray .int, 2) := by decide +kernel
theorem dX2_init_8 : decode cX2_init 8 = .ok (.putfield 11, 3) := by decide +kernel
theorem dX2_init_11 : decode cX2_init 11 = .ok (.aload_n 0, 1) := by decide +kernel
theorem dX2_init_12 : decode cX2_init 12 = .ok (.iconst 4, 1) := by decide +kernel
theorem dX2_init_13 : decode cX2_init 13 = .ok (.newarray .int, 2) := by decide +kernel
theorem dX2_init_15 : decode cX2_init 15 = .ok (.putfield 15, 3) := by decide +kernel
theorem dX2_init_18 : decode cX2_init 18 = .ok (.return_, 1) := by decide +kernel
theorem dX2_append_0 : decode cX2_append 0 = .ok (.aload_n 0, 1) := by decide +kernel
theorem dX2_append_1 : decode cX2_append 1 = .ok (.getfield 18, 3) := by decide +kernel
theorem dX2_append_4 : decode cX2_append 4 = .ok (.aload_n 0, 1) := by decide +kernel
theorem dX2_append_5 : decode cX2_append 5 = .ok (.getfield 11, 3) := by decide +kernel
theorem dX2_append_8 : decode cX2_append 8 = .ok (.arraylength, 1) := by decide +kernel
theorem dX2_append_9 : decode cX2_append 9 = .ok (.if_icmp .lt 7, 3) := by decide +kernel
theorem dX2_append_12 : decode cX2_append 12 = .ok (.aload_n 0, 1) := by decide +kernel
theorem dX2_append_13 : decode cX2_append 13 = .ok (.invokevirtual 22, 3) := by decide +kernel
theorem dX2_append_16 : decode cX2_append 16 = .ok (.aload_n 0, 1) := by decide +kernel
theorem dX2_append_17 : decode cX2_append 17 = .ok (.getfield 18, 3) := by decide +kernel
theorem dX2_append_20 : decode cX2_append 20 = .ok (.aload_n 0, 1) := by decide +kernel
theorem dX2_append_21 : decode cX2_append 21 = .ok (.getfield 11, 3) := by decide +kernel
theorem dX2_append_24 : decode cX2_append 24 = .ok (.arraylength, 1) := by decide +kernel
theorem dX2_append_25 : decode cX2_append 25 = .ok (.if_icmp .ge 45, 3) := by decide +kernel
theorem dX2_append_28 : decode cX2_append 28 = .ok (.aload_n 0, 1) := by decide +kernel
theorem dX2_append_29 : decode cX2_append 29 = .ok (.getfield 18, 3) := by decide +kernel
theorem dX2_append_32 : decode cX2_append 32 = .ok (.aload_n 0, 1) := by decide +kernel
theorem dX2_append_33 : decode cX2_append 33 = .ok (.getfield 15, 3) := by decide +kernel
theorem dX2_append_36 : decode cX2_append 36 = .ok (.arraylength, 1) := by decide +kernel
theorem dX2_append_37 : decode cX2_append 37 = .ok (.if_icmp .ge 33, 3) := by decide +kernel
theorem dX2_append_40 : decode cX2_append 40 = .ok (.aload_n 0, 1) := by decide +kernel
theorem dX2_append_41 : decode cX2_append 41 = .ok (.getfield 11, 3) := by decide +kernel
theorem dX2_append_44 : decode cX2_append 44 = .ok (.aload_n 0, 1) := by decide +kernel
theorem dX2_append_45 : decode cX2_append 45 = .ok (.getfield 18, 3) := by decide +kernel
theorem dX2_append_48 : decode cX2_append 48 = .ok (.iload_n 1, 1) := by decide +kernel
theorem dX2_append_49 : decode cX2_append 49 = .ok (.iastore, 1) := by decide +kernel
theorem dX2_append_50 : decode cX2_append 50 = .ok (.aload_n 0, 1) := by decide +kernel
theorem dX2_append_51 : decode cX2_append 51 = .ok (.getfield 15, 3) := by decide +kernel
theorem dX2_append_54 : decode cX2_append 54 = .ok (.aload_n 0, 1) := by decide +kernel
theorem dX2_append_55 : decode cX2_append 55 = .ok (.getfield 18, 3) := by decide +kernel
theorem dX2_append_58 : decode cX2_append 58 = .ok (.iload_n 2, 1) := by decide +kernel
theorem dX2_append_59 : decode cX2_append 59 = .ok (.iastore, 1) := by decide +kernel
theorem dX2_append_60 : decode cX2_append 60 = .ok (.aload_n 0, 1) := by decide +kernel
theorem dX2_append_61 : decode cX2_append 61 = .ok (.dup, 1) := by decide +kernel
theorem dX2_append_62 : decode cX2_append 62 = .ok (.getfield 18, 3) := by decide +kernel
theorem dX2_append_65 : decode cX2_append 65 = .ok (.iconst 1, 1) := by decide +kernel
theorem dX2_append_66 : decode cX2_append 66 = .ok (.iadd, 1) := by decide +kernel
theorem dX2_append_67 : decode cX2_append 67 = .ok (.putfield 18, 3) := by decide +kernel
theorem dX2_append_70 : decode cX2_append 70 = .ok (.return_, 1) := by decide +kernel
theorem dX2_set_0 : decode cX2_set 0 = .ok (.aload_n 0, 1) := by decide +kernel
theorem dX2_set_1 : decode cX2_set 1 = .ok (.getfield 18, 3) := by decide +kernel
theorem dX2_set_4 : decode cX2_set 4 = .ok (.iconst 1, 1) := by decide +kernel
theorem dX2_set_5 : decode cX2_set 5 = .ok (.isub, 1) := by decide +kernel
theorem dX2_set_6 : decode cX2_set 6 = .ok (.istore_n 3, 1) := by decide +kernel
theorem dX2_set_7 : decode cX2_set 7 = .ok (.iload_n 3, 1) := by decide +kernel
theorem dX2_set_8 : decode cX2_set 8 = .ok (.ifCond .lt 31, 3) := by decide +kernel
theorem dX2_set_11 : decode cX2_set 11 = .ok (.iload_n 3, 1) := by decide +kernel
theorem dX2_set_12 : decode cX2_set 12 = .ok (.aload_n 0, 1) := by decide +kernel
theorem dX2_set_13 : decode cX2_set 13 = .ok (.getfield 15, 3) := by decide +kernel
theorem dX2_set_16 : decode cX2_set 16 = .ok (.arraylength, 1) := by decide +kernel
theorem dX2_set_17 : decode cX2_set 17 = .ok (.if_icmp .ge 22, 3) := by decide +kernel
theorem dX2_set_20 : decode cX2_set 20 = .ok (.aload_n 0, 1) := by decide +kernel
theorem dX2_set_21 : decode cX2_set 21 = .ok (.iload_n 3, 1) := by decide +kernel
theorem dX2_set_22 : decode cX2_set 22 = .ok (.invokevirtual 25, 3) := by decide +kernel
theorem dX2_set_25 : decode cX2_set 25 = .ok (.iload_n 1, 1) := by decide +kernel
theorem dX2_set_26 : decode cX2_set 26 = .ok (.if_icmp .ne 13, 3) := by decide +kernel
theorem dX2_set_29 : decode cX2_set 29 = .ok (.aload_n 0, 1) := by decide +kernel
theorem dX2_set_30 : decode cX2_set 30 = .ok (.getfield 15, 3) := by decide +kernel
theorem dX2_set_33 : decode cX2_set 33 = .ok (.iload_n 3, 1) := by decide +kernel
theorem dX2_set_34 : decode cX2_set 34 = .ok (.iload_n 2, 1) := by decide +kernel
theorem dX2_set_35 : decode cX2_set 35 = .ok (.iastore, 1) := by decide +kernel
theorem dX2_set_36 : decode cX2_set 36 = .ok (.goto 9, 3) := by decide +kernel
theorem dX2_set_39 : decode cX2_set 39 = .ok (.aload_n 0, 1) := by decide +kernel
theorem dX2_set_40 : decode cX2_set 40 = .ok (.iload_n 1, 1) := by decide +kernel
theorem dX2_set_41 : decode cX2_set 41 = .ok (.iload_n 2, 1) := by decide +kernel
theorem dX2_set_42 : decode cX2_set 42 = .ok (.invokevirtual 29, 3) := by decide +kernel
theorem dX2_set_45 : decode cX2_set 45 = .ok (.return_, 1) := by decide +kernel
theorem dX2_widen_0 : decode cX2_widen 0 = .ok (.aload_n 0, 1) := by decide +kernel
theorem dX2_widen_1 : decode cX2_widen 1 = .ok (.getfield 11, 3) := by decide +kernel
theorem dX2_widen_4 : decode cX2_widen 4 = .ok (.arraylength, 1) := by decide +kernel
theorem dX2_widen_5 : decode cX2_widen 5 = .ok (.sipush 2048, 3) := by decide +kernel
theorem dX2_widen_8 : decode cX2_widen 8 = .ok (.if_icmp .ge 13, 3) := by decide +kernel
theorem dX2_widen_11 : decode cX2_widen 11 = .ok (.aload_n 0, 1) := by decide +kernel
theorem dX2_widen_12 : decode cX2_widen 12 = .ok (.getfield 11, 3) := by decide +kernel
theorem dX2_widen_15 : decode cX2_widen 15 = .ok (.arraylength, 1) := by decide +kernel
theorem dX2_widen_16 : decode cX2_widen 16 = .ok (.iconst 2, 1) := by decide +kernel
theorem dX2_widen_17 : decode cX2_widen 17 = .ok (.imul, 1) := by decide +kernel
theorem dX2_widen_18 : decode cX2_widen 18 = .ok (.goto 6, 3) := by decide +kernel
theorem dX2_widen_21 : decode cX2_widen 21 = .ok (.sipush 4096, 3) := by decide +kernel
theorem dX2_widen_24 : decode cX2_widen 24 = .ok (.istore_n 1, 1) := by decide +kernel
theorem dX2_widen_25 : decode cX2_widen 25 = .ok (.aload_n 0, 1) := by decide +kernel
theorem dX2_widen_26 : decode cX2_widen 26 = .ok (.aload_n 0, 1) := by decide +kernel
theorem dX2_widen_27 : decode cX2_widen 27 = .ok (.getfield 11, 3) := by decide +kernel
theorem dX2_widen_30 : decode cX2_widen 30 = .ok (.iload_n 1, 1) := by decide +kernel
theorem dX2_widen_31 : decode cX2_widen 31 = .ok (.invokestatic 33, 3) := by decide +kernel
theorem dX2_widen_34 : decode cX2_widen 34 = .ok (.putfield 11, 3) := by decide +kernel
theorem dX2_widen_37 : decode cX2_widen 37 = .ok (.aload_n 0, 1) := by decide +kernel
theorem dX2_widen_38 : decode cX2_widen 38 = .ok (.aload_n 0, 1) := by decide +kernel
theorem dX2_widen_39 : decode cX2_widen 39 = .ok (.getfield 15, 3) := by decide +kernel
theorem dX2_widen_42 : decode cX2_widen 42 = .ok (.iload_n 1, 1) := by decide +kernel
theorem dX2_widen_43 : decode cX2_widen 43 = .ok (.invokestatic 33, 3) := by decide +kernel
theorem dX2_widen_46 : decode cX2_widen 46 = .ok (.putfield 15, 3) := by decide +kernel
theorem dX2_widen_49 : decode cX2_widen 49 = .ok (.return_, 1) := by decide +kernel
theorem dX2_dayAt_0 : decode cX2_dayAt 0 = .ok (.iload_n 1, 1) := by decide +kernel
theorem dX2_dayAt_1 : decode cX2_dayAt 1 = .ok (.ifCond .lt 29, 3) := by decide +kernel
theorem dX2_dayAt_4 : decode cX2_dayAt 4 = .ok (.iload_n 1, 1) := by decide +kernel
theorem dX2_dayAt_5 : decode cX2_dayAt 5 = .ok (.aload_n 0, 1) := by decide +kernel
theorem dX2_dayAt_6 : decode cX2_dayAt 6 = .ok (.getfield 18, 3) := by decide +kernel
theorem dX2_dayAt_9 : decode cX2_dayAt 9 = .ok (.if_icmp .ge 21, 3) := by decide +kernel
theorem dX2_dayAt_12 : decode cX2_dayAt 12 = .ok (.iload_n 1, 1) := by decide +kernel
theorem dX2_dayAt_13 : decode cX2_dayAt 13 = .ok (.aload_n 0, 1) := by decide +kernel
theorem dX2_dayAt_14 : decode cX2_dayAt 14 = .ok (.getfield 11, 3) := by decide +kernel
theorem dX2_dayAt_17 : decode cX2_dayAt 17 = .ok (.arraylength, 1) := by decide +kernel
theorem dX2_dayAt_18 : decode cX2_dayAt 18 = .ok (.if_icmp .ge 12, 3) := by decide +kernel
theorem dX2_dayAt_21 : decode cX2_dayAt 21 = .ok (.aload_n 0, 1) := by decide +kernel
theorem dX2_dayAt_22 : decode cX2_dayAt 22 = .ok (.getfield 11, 3) := by decide +kernel
theorem dX2_dayAt_25 : decode cX2_dayAt 25 = .ok (.iload_n 1, 1) := by decide +kernel
theorem dX2_dayAt_26 : decode cX2_dayAt 26 = .ok (.iaload, 1) := by decide +kernel
theorem dX2_dayAt_27 : decode cX2_dayAt 27 = .ok (.goto 4, 3) := by decide +kernel
theorem dX2_dayAt_30 : decode cX2_dayAt 30 = .ok (.iconst (-1), 1) := by decide +kernel
theorem dX2_dayAt_31 : decode cX2_dayAt 31 = .ok (.ireturn, 1) := by decide +kernel
theorem dX2_valueAt_0 : decode cX2_valueAt 0 = .ok (.iload_n 1, 1) := by decide +kernel
theorem dX2_valueAt_1 : decode cX2_valueAt 1 = .ok (.ifCond .lt 29, 3) := by decide +kernel
theorem dX2_valueAt_4 : decode cX2_valueAt 4 = .ok (.iload_n 1, 1) := by decide +kernel
theorem dX2_valueAt_5 : decode cX2_valueAt 5 = .ok (.aload_n 0, 1) := by decide +kernel
theorem dX2_valueAt_6 : decode cX2_valueAt 6 = .ok (.getfield 18, 3) := by decide +kernel
theorem dX2_valueAt_9 : decode cX2_valueAt 9 = .ok (.if_icmp .ge 21, 3) := by decide +kernel
theorem dX2_valueAt_12 : decode cX2_valueAt 12 = .ok (.iload_n 1, 1) := by decide +kernel
theorem dX2_valueAt_13 : decode cX2_valueAt 13 = .ok (.aload_n 0, 1) := by decide +kernel
theorem dX2_valueAt_14 : decode cX2_valueAt 14 = .ok (.getfield 15, 3) := by decide +kernel
theorem dX2_valueAt_17 : decode cX2_valueAt 17 = .ok (.arraylength, 1) := by decide +kernel
theorem dX2_valueAt_18 : decode cX2_valueAt 18 = .ok (.if_icmp .ge 12, 3) := by decide +kernel
theorem dX2_valueAt_21 : decode cX2_valueAt 21 = .ok (.aload_n 0, 1) := by decide +kernel
theorem dX2_valueAt_22 : decode cX2_valueAt 22 = .ok (.getfield 15, 3) := by decide +kernel
theorem dX2_valueAt_25 : decode cX2_valueAt 25 = .ok (.iload_n 1, 1) := by decide +kernel
theorem dX2_valueAt_26 : decode cX2_valueAt 26 = .ok (.iaload, 1) := by decide +kernel
theorem dX2_valueAt_27 : decode cX2_valueAt 27 = .ok (.goto 4, 3) := by decide +kernel
theorem dX2_valueAt_30 : decode cX2_valueAt 30 = .ok (.iconst (-1), 1) := by decide +kernel
theorem dX2_valueAt_31 : decode cX2_valueAt 31 = .ok (.ireturn, 1) := by decide +kernel
theorem dX2_lastDay_0 : decode cX2_lastDay 0 = .ok (.aload_n 0, 1) := by decide +kernel
theorem dX2_lastDay_1 : decode cX2_lastDay 1 = .ok (.aload_n 0, 1) := by decide +kernel
theorem dX2_lastDay_2 : decode cX2_lastDay 2 = .ok (.getfield 18, 3) := by decide +kernel
theorem dX2_lastDay_5 : decode cX2_lastDay 5 = .ok (.iconst 1, 1) := by decide +kernel
theorem dX2_lastDay_6 : decode cX2_lastDay 6 = .ok (.isub, 1) := by decide +kernel
theorem dX2_lastDay_7 : decode cX2_lastDay 7 = .ok (.invokevirtual 25, 3) := by decide +kernel
theorem dX2_lastDay_10 : decode cX2_lastDay 10 = .ok (.ireturn, 1) := by decide +kernel
theorem dX2_lastValue_0 : decode cX2_lastValue 0 = .ok (.aload_n 0, 1) := by decide +kernel
theorem dX2_lastValue_1 : decode cX2_lastValue 1 = .ok (.aload_n 0, 1) := by decide +kernel
theorem dX2_lastValue_2 : decode cX2_lastValue 2 = .ok (.getfield 18, 3) := by decide +kernel
theorem dX2_lastValue_5 : decode cX2_lastValue 5 = .ok (.iconst 1, 1) := by decide +kernel
theorem dX2_lastValue_6 : decode cX2_lastValue 6 = .ok (.isub, 1) := by decide +kernel
theorem dX2_lastValue_7 : decode cX2_lastValue 7 = .ok (.invokevirtual 39, 3) := by decide +kernel
theorem dX2_lastValue_10 : decode cX2_lastValue 10 = .ok (.ireturn, 1) := by decide +kernel
theorem dX2_at_0 : decode cX2_at 0 = .ok (.aload_n 0, 1) := by decide +kernel
theorem dX2_at_1 : decode cX2_at 1 = .ok (.aload_n 0, 1) := by decide +kernel
theorem dX2_at_2 : decode cX2_at 2 = .ok (.iload_n 1, 1) := by decide +kernel
theorem dX2_at_3 : decode cX2_at 3 = .ok (.invokevirtual 42, 3) := by decide +kernel
theorem dX2_at_6 : decode cX2_at 6 = .ok (.invokevirtual 39, 3) := by decide +kernel
theorem dX2_at_9 : decode cX2_at 9 = .ok (.ireturn, 1) := by decide +kernel
theorem dX2_atByGoing_0 : decode cX2_atByGoing 0 = .ok (.aload_n 0, 1) := by decide +kernel
theorem dX2_atByGoing_1 : decode cX2_atByGoing 1 = .ok (.aload_n 0, 1) := by decide +kernel
theorem dX2_atByGoing_2 : decode cX2_atByGoing 2 = .ok (.iconst (-1), 1) := by decide +kernel
theorem dX2_atByGoing_3 : decode cX2_atByGoing 3 = .ok (.iload_n 1, 1) := by decide +kernel
theorem dX2_atByGoing_4 : decode cX2_atByGoing 4 = .ok (.invokevirtual 45, 3) := by decide +kernel
theorem dX2_atByGoing_7 : decode cX2_atByGoing 7 = .ok (.invokevirtual 39, 3) := by decide +kernel
theorem dX2_atByGoing_10 : decode cX2_atByGoing 10 = .ok (.ireturn, 1) := by decide +kernel
theorem dX2_advance_0 : decode cX2_advance 0 = .ok (.iload_n 1, 1) := by decide +kernel
theorem dX2_advance_1 : decode cX2_advance 1 = .ok (.istore_n 3, 1) := by decide +kernel
theorem dX2_advance_2 : decode cX2_advance 2 = .ok (.iload_n 1, 1) := by decide +kernel
theorem dX2_advance_3 : decode cX2_advance 3 = .ok (.iconst 1, 1) := by decide +kernel
theorem dX2_advance_4 : decode cX2_advance 4 = .ok (.iadd, 1) := by decide +kernel
theorem dX2_advance_5 : decode cX2_advance 5 = .ok (.istore 4, 2) := by decide +kernel
theorem dX2_advance_7 : decode cX2_advance 7 = .ok (.iload 4, 2) := by decide +kernel
theorem dX2_advance_9 : decode cX2_advance 9 = .ok (.aload_n 0, 1) := by decide +kernel
theorem dX2_advance_10 : decode cX2_advance 10 = .ok (.getfield 18, 3) := by decide +kernel
theorem dX2_advance_13 : decode cX2_advance 13 = .ok (.if_icmp .ge 22, 3) := by decide +kernel
theorem dX2_advance_16 : decode cX2_advance 16 = .ok (.aload_n 0, 1) := by decide +kernel
theorem dX2_advance_17 : decode cX2_advance 17 = .ok (.iload 4, 2) := by decide +kernel
theorem dX2_advance_19 : decode cX2_advance 19 = .ok (.invokevirtual 25, 3) := by decide +kernel
theorem dX2_advance_22 : decode cX2_advance 22 = .ok (.iload_n 2, 1) := by decide +kernel
theorem dX2_advance_23 : decode cX2_advance 23 = .ok (.if_icmp .gt 12, 3) := by decide +kernel
theorem dX2_advance_26 : decode cX2_advance 26 = .ok (.iload 4, 2) := by decide +kernel
theorem dX2_advance_28 : decode cX2_advance 28 = .ok (.istore_n 3, 1) := by decide +kernel
theorem dX2_advance_29 : decode cX2_advance 29 = .ok (.iinc 4 1, 3) := by decide +kernel
theorem dX2_advance_32 : decode cX2_advance 32 = .ok (.goto (-25), 3) := by decide +kernel
theorem dX2_advance_35 : decode cX2_advance 35 = .ok (.iload_n 3, 1) := by decide +kernel
theorem dX2_advance_36 : decode cX2_advance 36 = .ok (.ireturn, 1) := by decide +kernel
theorem dX2_indexByHalving_0 : decode cX2_indexByHalving 0 = .ok (.iconst 0, 1) := by decide +kernel
theorem dX2_indexByHalving_1 : decode cX2_indexByHalving 1 = .ok (.istore_n 2, 1) := by decide +kernel
theorem dX2_indexByHalving_2 : decode cX2_indexByHalving 2 = .ok (.aload_n 0, 1) := by decide +kernel
theorem dX2_indexByHalving_3 : decode cX2_indexByHalving 3 = .ok (.getfield 18, 3) := by decide +kernel
theorem dX2_indexByHalving_6 : decode cX2_indexByHalving 6 = .ok (.istore_n 3, 1) := by decide +kernel
theorem dX2_indexByHalving_7 : decode cX2_indexByHalving 7 = .ok (.iconst 0, 1) := by decide +kernel
theorem dX2_indexByHalving_8 : decode cX2_indexByHalving 8 = .ok (.istore 4, 2) := by decide +kernel
theorem dX2_indexByHalving_10 : decode cX2_indexByHalving 10 = .ok (.iload 4, 2) := by decide +kernel
theorem dX2_indexByHalving_12 : decode cX2_indexByHalving 12 = .ok (.bipush 32, 2) := by decide +kernel
theorem dX2_indexByHalving_14 : decode cX2_indexByHalving 14 = .ok (.if_icmp .ge 44, 3) := by decide +kernel
theorem dX2_indexByHalving_17 : decode cX2_indexByHalving 17 = .ok (.iload_n 2, 1) := by decide +kernel
theorem dX2_indexByHalving_18 : decode cX2_indexByHalving 18 = .ok (.iload_n 3, 1) := by decide +kernel
theorem dX2_indexByHalving_19 : decode cX2_indexByHalving 19 = .ok (.if_icmp .ge 39, 3) := by decide +kernel
theorem dX2_indexByHalving_22 : decode cX2_indexByHalving 22 = .ok (.iload_n 2, 1) := by decide +kernel
theorem dX2_indexByHalving_23 : decode cX2_indexByHalving 23 = .ok (.iload_n 3, 1) := by decide +kernel
theorem dX2_indexByHalving_24 : decode cX2_indexByHalving 24 = .ok (.iload_n 2, 1) := by decide +kernel
theorem dX2_indexByHalving_25 : decode cX2_indexByHalving 25 = .ok (.isub, 1) := by decide +kernel
theorem dX2_indexByHalving_26 : decode cX2_indexByHalving 26 = .ok (.iconst 2, 1) := by decide +kernel
theorem dX2_indexByHalving_27 : decode cX2_indexByHalving 27 = .ok (.idiv, 1) := by decide +kernel
theorem dX2_indexByHalving_28 : decode cX2_indexByHalving 28 = .ok (.iadd, 1) := by decide +kernel
theorem dX2_indexByHalving_29 : decode cX2_indexByHalving 29 = .ok (.istore 5, 2) := by decide +kernel
theorem dX2_indexByHalving_31 : decode cX2_indexByHalving 31 = .ok (.aload_n 0, 1) := by decide +kernel
theorem dX2_indexByHalving_32 : decode cX2_indexByHalving 32 = .ok (.iload 5, 2) := by decide +kernel
theorem dX2_indexByHalving_34 : decode cX2_indexByHalving 34 = .ok (.invokevirtual 25, 3) := by decide +kernel
theorem dX2_indexByHalving_37 : decode cX2_indexByHalving 37 = .ok (.iload_n 1, 1) := by decide +kernel
theorem dX2_indexByHalving_38 : decode cX2_indexByHalving 38 = .ok (.if_icmp .gt 11, 3) := by decide +kernel
theorem dX2_indexByHalving_41 : decode cX2_indexByHalving 41 = .ok (.iload 5, 2) := by decide +kernel
theorem dX2_indexByHalving_43 : decode cX2_indexByHalving 43 = .ok (.iconst 1, 1) := by decide +kernel
theorem dX2_indexByHalving_44 : decode cX2_indexByHalving 44 = .ok (.iadd, 1) := by decide +kernel
theorem dX2_indexByHalving_45 : decode cX2_indexByHalving 45 = .ok (.istore_n 2, 1) := by decide +kernel
theorem dX2_indexByHalving_46 : decode cX2_indexByHalving 46 = .ok (.goto 6, 3) := by decide +kernel
theorem dX2_indexByHalving_49 : decode cX2_indexByHalving 49 = .ok (.iload 5, 2) := by decide +kernel
theorem dX2_indexByHalving_51 : decode cX2_indexByHalving 51 = .ok (.istore_n 3, 1) := by decide +kernel
theorem dX2_indexByHalving_52 : decode cX2_indexByHalving 52 = .ok (.iinc 4 1, 3) := by decide +kernel
theorem dX2_indexByHalving_55 : decode cX2_indexByHalving 55 = .ok (.goto (-45), 3) := by decide +kernel
theorem dX2_indexByHalving_58 : decode cX2_indexByHalving 58 = .ok (.iload_n 2, 1) := by decide +kernel
theorem dX2_indexByHalving_59 : decode cX2_indexByHalving 59 = .ok (.iconst 1, 1) := by decide +kernel
theorem dX2_indexByHalving_60 : decode cX2_indexByHalving 60 = .ok (.isub, 1) := by decide +kernel
theorem dX2_indexByHalving_61 : decode cX2_indexByHalving 61 = .ok (.ireturn, 1) := by decide +kernel
theorem dX2_firstDayWith_0 : decode cX2_firstDayWith 0 = .ok (.iconst 0, 1) := by decide +kernel
theorem dX2_firstDayWith_1 : decode cX2_firstDayWith 1 = .ok (.aload_n 0, 1) := by decide +kernel
theorem dX2_firstDayWith_2 : decode cX2_firstDayWith 2 = .ok (.iload_n 2, 1) := by decide +kernel
theorem dX2_firstDayWith_3 : decode cX2_firstDayWith 3 = .ok (.invokevirtual 42, 3) := by decide +kernel
theorem dX2_firstDayWith_6 : decode cX2_firstDayWith 6 = .ok (.invokestatic 49, 3) := by decide +kernel
theorem dX2_firstDayWith_9 : decode cX2_firstDayWith 9 = .ok (.istore 4, 2) := by decide +kernel
theorem dX2_firstDayWith_11 : decode cX2_firstDayWith 11 = .ok (.iload 4, 2) := by decide +kernel
theorem dX2_firstDayWith_13 : decode cX2_firstDayWith 13 = .ok (.aload_n 0, 1) := by decide +kernel
theorem dX2_firstDayWith_14 : decode cX2_firstDayWith 14 = .ok (.getfield 18, 3) := by decide +kernel
theorem dX2_firstDayWith_17 : decode cX2_firstDayWith 17 = .ok (.if_icmp .ge 40, 3) := by decide +kernel
theorem dX2_firstDayWith_20 : decode cX2_firstDayWith 20 = .ok (.aload_n 0, 1) := by decide +kernel
theorem dX2_firstDayWith_21 : decode cX2_firstDayWith 21 = .ok (.iload 4, 2) := by decide +kernel
theorem dX2_firstDayWith_23 : decode cX2_firstDayWith 23 = .ok (.invokevirtual 25, 3) := by decide +kernel
theorem dX2_firstDayWith_26 : decode cX2_firstDayWith 26 = .ok (.iload_n 3, 1) := by decide +kernel
theorem dX2_firstDayWith_27 : decode cX2_firstDayWith 27 = .ok (.if_icmp .gt 30, 3) := by decide +kernel
theorem dX2_firstDayWith_30 : decode cX2_firstDayWith 30 = .ok (.aload_n 0, 1) := by decide +kernel
theorem dX2_firstDayWith_31 : decode cX2_firstDayWith 31 = .ok (.iload 4, 2) := by decide +kernel
theorem dX2_firstDayWith_33 : decode cX2_firstDayWith 33 = .ok (.invokevirtual 39, 3) := by decide +kernel
theorem dX2_firstDayWith_36 : decode cX2_firstDayWith 36 = .ok (.iload_n 1, 1) := by decide +kernel
theorem dX2_firstDayWith_37 : decode cX2_firstDayWith 37 = .ok (.if_icmp .ne 14, 3) := by decide +kernel
theorem dX2_firstDayWith_40 : decode cX2_firstDayWith 40 = .ok (.aload_n 0, 1) := by decide +kernel
theorem dX2_firstDayWith_41 : decode cX2_firstDayWith 41 = .ok (.iload 4, 2) := by decide +kernel
theorem dX2_firstDayWith_43 : decode cX2_firstDayWith 43 = .ok (.invokevirtual 25, 3) := by decide +kernel
theorem dX2_firstDayWith_46 : decode cX2_firstDayWith 46 = .ok (.iload_n 2, 1) := by decide +kernel
theorem dX2_firstDayWith_47 : decode cX2_firstDayWith 47 = .ok (.invokestatic 49, 3) := by decide +kernel
theorem dX2_firstDayWith_50 : decode cX2_firstDayWith 50 = .ok (.ireturn, 1) := by decide +kernel
theorem dX2_firstDayWith_51 : decode cX2_firstDayWith 51 = .ok (.iinc 4 1, 3) := by decide +kernel
theorem dX2_firstDayWith_54 : decode cX2_firstDayWith 54 = .ok (.goto (-43), 3) := by decide +kernel
theorem dX2_firstDayWith_57 : decode cX2_firstDayWith 57 = .ok (.iconst (-1), 1) := by decide +kernel
theorem dX2_firstDayWith_58 : decode cX2_firstDayWith 58 = .ok (.ireturn, 1) := by decide +kernel
theorem dX3_init_0 : decode cX3_init 0 = .ok (.aload_n 0, 1) := by decide +kernel
theorem dX3_init_1 : decode cX3_init 1 = .ok (.invokespecial 3, 3) := by decide +kernel
theorem dX3_init_4 : decode cX3_init 4 = .ok (.aload_n 0, 1) := by decide +kernel
theorem dX3_init_5 : decode cX3_init 5 = .ok (.iload_n 1, 1) := by decide +kernel
theorem dX3_init_6 : decode cX3_init 6 = .ok (.putfield 9, 3) := by decide +kernel
theorem dX3_init_9 : decode cX3_init 9 = .ok (.aload_n 0, 1) := by decide +kernel
theorem dX3_init_10 : decode cX3_init 10 = .ok (.iload_n 2, 1) := by decide +kernel
theorem dX3_init_11 : decode cX3_init 11 = .ok (.putfield 15, 3) := by decide +kernel
theorem dX3_init_14 : decode cX3_init 14 = .ok (.aload_n 0, 1) := by decide +kernel
theorem dX3_init_15 : decode cX3_init 15 = .ok (.new 19, 3) := by decide +kernel
theorem dX3_init_18 : decode cX3_init 18 = .ok (.dup, 1) := by decide +kernel
theorem dX3_init_19 : decode cX3_init 19 = .ok (.invokespecial 21, 3) := by decide +kernel
theorem dX3_init_22 : decode cX3_init 22 = .ok (.putfield 22, 3) := by decide +kernel
theorem dX3_init_25 : decode cX3_init 25 = .ok (.aload_n 0, 1) := by decide +kernel
theorem dX3_init_26 : decode cX3_init 26 = .ok (.new 19, 3) := by decide +kernel
theorem dX3_init_29 : decode cX3_init 29 = .ok (.dup, 1) := by decide +kernel
theorem dX3_init_30 : decode cX3_init 30 = .ok (.invokespecial 21, 3) := by decide +kernel
theorem dX3_init_33 : decode cX3_init 33 = .ok (.putfield 26, 3) := by decide +kernel
theorem dX3_init_36 : decode cX3_init 36 = .ok (.aload_n 0, 1) := by decide +kernel
theorem dX3_init_37 : decode cX3_init 37 = .ok (.new 19, 3) := by decide +kernel
theorem dX3_init_40 : decode cX3_init 40 = .ok (.dup, 1) := by decide +kernel
theorem dX3_init_41 : decode cX3_init 41 = .ok (.invokespecial 21, 3) := by decide +kernel
theorem dX3_init_44 : decode cX3_init 44 = .ok (.putfield 29, 3) := by decide +kernel
theorem dX3_init_47 : decode cX3_init 47 = .ok (.aload_n 0, 1) := by decide +kernel
theorem dX3_init_48 : decode cX3_init 48 = .ok (.bipush 6, 2) := by decide +kernel
theorem dX3_init_50 : decode cX3_init 50 = .ok (.newarray .int, 2) := by decide +kernel
theorem dX3_init_52 : decode cX3_init 52 = .ok (.putfield 32, 3) := by decide +kernel
theorem dX3_init_55 : decode cX3_init 55 = .ok (.return_, 1) := by decide +kernel
theorem dX3_isOnRoadNow_0 : decode cX3_isOnRoadNow 0 = .ok (.aload_n 0, 1) := by decide +kernel
theorem dX3_isOnRoadNow_1 : decode cX3_isOnRoadNow 1 = .ok (.getfield 29, 3) := by decide +kernel
theorem dX3_isOnRoadNow_4 : decode cX3_isOnRoadNow 4 = .ok (.invokevirtual 36, 3) := by decide +kernel
theorem dX3_isOnRoadNow_7 : decode cX3_isOnRoadNow 7 = .ok (.iconst 1, 1) := by decide +kernel
theorem dX3_isOnRoadNow_8 : decode cX3_isOnRoadNow 8 = .ok (.if_icmp .ne 7, 3) := by decide +kernel
theorem dX3_isOnRoadNow_11 : decode cX3_isOnRoadNow 11 = .ok (.iconst 1, 1) := by decide +kernel
theorem dX3_isOnRoadNow_12 : decode cX3_isOnRoadNow 12 = .ok (.goto 4, 3) := by decide +kernel
theorem dX3_isOnRoadNow_15 : decode cX3_isOnRoadNow 15 = .ok (.iconst 0, 1) := by decide +kernel
theorem dX3_isOnRoadNow_16 : decode cX3_isOnRoadNow 16 = .ok (.ireturn, 1) := by decide +kernel
theorem dX3_hasPlate_0 : decode cX3_hasPlate 0 = .ok (.aload_n 0, 1) := by decide +kernel
theorem dX3_hasPlate_1 : decode cX3_hasPlate 1 = .ok (.getfield 26, 3) := by decide +kernel
theorem dX3_hasPlate_4 : decode cX3_hasPlate 4 = .ok (.invokevirtual 36, 3) := by decide +kernel
theorem dX3_hasPlate_7 : decode cX3_hasPlate 7 = .ok (.iconst (-1), 1) := by decide +kernel
theorem dX3_hasPlate_8 : decode cX3_hasPlate 8 = .ok (.if_icmp .eq 7, 3) := by decide +kernel
theorem dX3_hasPlate_11 : decode cX3_hasPlate 11 = .ok (.iconst 1, 1) := by decide +kernel
theorem dX3_hasPlate_12 : decode cX3_hasPlate 12 = .ok (.goto 4, 3) := by decide +kernel
theorem dX3_hasPlate_15 : decode cX3_hasPlate 15 = .ok (.iconst 0, 1) := by decide +kernel
theorem dX3_hasPlate_16 : decode cX3_hasPlate 16 = .ok (.ireturn, 1) := by decide +kernel
theorem dX3_lienLeft_0 : decode cX3_lienLeft 0 = .ok (.aload_n 0, 1) := by decide +kernel
theorem dX3_lienLeft_1 : decode cX3_lienLeft 1 = .ok (.getfield 32, 3) := by decide +kernel
theorem dX3_lienLeft_4 : decode cX3_lienLeft 4 = .ok (.iload_n 1, 1) := by decide +kernel
theorem dX3_lienLeft_5 : decode cX3_lienLeft 5 = .ok (.bipush 97, 2) := by decide +kernel
theorem dX3_lienLeft_7 : decode cX3_lienLeft 7 = .ok (.isub, 1) := by decide +kernel
theorem dX3_lienLeft_8 : decode cX3_lienLeft 8 = .ok (.invokestatic 40, 3) := by decide +kernel
theorem dX3_lienLeft_11 : decode cX3_lienLeft 11 = .ok (.ireturn, 1) := by decide +kernel
theorem dX3_isBlockedNow_0 : decode cX3_isBlockedNow 0 = .ok (.aload_n 0, 1) := by decide +kernel
theorem dX3_isBlockedNow_1 : decode cX3_isBlockedNow 1 = .ok (.getfield 32, 3) := by decide +kernel
theorem dX3_isBlockedNow_4 : decode cX3_isBlockedNow 4 = .ok (.astore_n 1, 1) := by decide +kernel
theorem dX3_isBlockedNow_5 : decode cX3_isBlockedNow 5 = .ok (.aload_n 1, 1) := by decide +kernel
theorem dX3_isBlockedNow_6 : decode cX3_isBlockedNow 6 = .ok (.arraylength, 1) := by decide +kernel
theorem dX3_isBlockedNow_7 : decode cX3_isBlockedNow 7 = .ok (.istore_n 2, 1) := by decide +kernel
theorem dX3_isBlockedNow_8 : decode cX3_isBlockedNow 8 = .ok (.iconst 0, 1) := by decide +kernel
theorem dX3_isBlockedNow_9 : decode cX3_isBlockedNow 9 = .ok (.istore_n 3, 1) := by decide +kernel
theorem dX3_isBlockedNow_10 : decode cX3_isBlockedNow 10 = .ok (.iload_n 3, 1) := by decide +kernel
theorem dX3_isBlockedNow_11 : decode cX3_isBlockedNow 11 = .ok (.iload_n 2, 1) := by decide +kernel
theorem dX3_isBlockedNow_12 : decode cX3_isBlockedNow 12 = .ok (.if_icmp .ge 21, 3) := by decide +kernel
theorem dX3_isBlockedNow_15 : decode cX3_isBlockedNow 15 = .ok (.aload_n 1, 1) := by decide +kernel
theorem dX3_isBlockedNow_16 : decode cX3_isBlockedNow 16 = .ok (.iload_n 3, 1) := by decide +kernel
theorem dX3_isBlockedNow_17 : decode cX3_isBlockedNow 17 = .ok (.iaload, 1) := by decide +kernel
theorem dX3_isBlockedNow_18 : decode cX3_isBlockedNow 18 = .ok (.istore 4, 2) := by decide +kernel
theorem dX3_isBlockedNow_20 : decode cX3_isBlockedNow 20 = .ok (.iload 4, 2) := by decide +kernel
theorem dX3_isBlockedNow_22 : decode cX3_isBlockedNow 22 = .ok (.ifCond .le 5, 3) := by decide +kernel
theorem dX3_isBlockedNow_25 : decode cX3_isBlockedNow 25 = .ok (.iconst 1, 1) := by decide +kernel
theorem dX3_isBlockedNow_26 : decode cX3_isBlockedNow 26 = .ok (.ireturn, 1) := by decide +kernel
theorem dX3_isBlockedNow_27 : decode cX3_isBlockedNow 27 = .ok (.iinc 3 1, 3) := by decide +kernel
theorem dX3_isBlockedNow_30 : decode cX3_isBlockedNow 30 = .ok (.goto (-20), 3) := by decide +kernel
theorem dX3_isBlockedNow_33 : decode cX3_isBlockedNow 33 = .ok (.aload_n 0, 1) := by decide +kernel
theorem dX3_isBlockedNow_34 : decode cX3_isBlockedNow 34 = .ok (.getfield 44, 3) := by decide +kernel
theorem dX3_isBlockedNow_37 : decode cX3_isBlockedNow 37 = .ok (.ireturn, 1) := by decide +kernel
theorem dX4_init_0 : decode cX4_init 0 = .ok (.aload_n 0, 1) := by decide +kernel
theorem dX4_init_1 : decode cX4_init 1 = .ok (.invokespecial 1, 3) := by decide +kernel
theorem dX4_init_4 : decode cX4_init 4 = .ok (.aload_n 0, 1) := by decide +kernel
theorem dX4_init_5 : decode cX4_init 5 = .ok (.bipush 15, 2) := by decide +kernel
theorem dX4_init_7 : decode cX4_init 7 = .ok (.anewarray 9, 3) := by decide +kernel
theorem dX4_init_10 : decode cX4_init 10 = .ok (.putfield 11, 3) := by decide +kernel
theorem dX4_init_13 : decode cX4_init 13 = .ok (.aload_n 0, 1) := by decide +kernel
theorem dX4_init_14 : decode cX4_init 14 = .ok (.bipush 40, 2) := by decide +kernel
theorem dX4_init_16 : decode cX4_init 16 = .ok (.anewarray 15, 3) := by decide +kernel
theorem dX4_init_19 : decode cX4_init 19 = .ok (.putfield 17, 3) := by decide +kernel
theorem dX4_init_22 : decode cX4_init 22 = .ok (.aload_n 0, 1) := by decide +kernel
theorem dX4_init_23 : decode cX4_init 23 = .ok (.bipush 120, 2) := by decide +kernel
theorem dX4_init_25 : decode cX4_init 25 = .ok (.anewarray 21, 3) := by decide +kernel
theorem dX4_init_28 : decode cX4_init 28 = .ok (.putfield 23, 3) := by decide +kernel
theorem dX4_init_31 : decode cX4_init 31 = .ok (.aload_n 0, 1) := by decide +kernel
theorem dX4_init_32 : decode cX4_init 32 = .ok (.bipush 12, 2) := by decide +kernel
theorem dX4_init_34 : decode cX4_init 34 = .ok (.newarray .int, 2) := by decide +kernel
theorem dX4_init_36 : decode cX4_init 36 = .ok (.putfield 27, 3) := by decide +kernel
theorem dX4_init_39 : decode cX4_init 39 = .ok (.aload_n 0, 1) := by decide +kernel
theorem dX4_init_40 : decode cX4_init 40 = .ok (.bipush 12, 2) := by decide +kernel
theorem dX4_init_42 : decode cX4_init 42 = .ok (.newarray .int, 2) := by decide +kernel
theorem dX4_init_44 : decode cX4_init 44 = .ok (.putfield 31, 3) := by decide +kernel
theorem dX4_init_47 : decode cX4_init 47 = .ok (.aload_n 0, 1) := by decide +kernel
theorem dX4_init_48 : decode cX4_init 48 = .ok (.bipush 12, 2) := by decide +kernel
theorem dX4_init_50 : decode cX4_init 50 = .ok (.newarray .int, 2) := by decide +kernel
theorem dX4_init_52 : decode cX4_init 52 = .ok (.putfield 34, 3) := by decide +kernel
theorem dX4_init_55 : decode cX4_init 55 = .ok (.return_, 1) := by decide +kernel
theorem dX4_addKeeper_0 : decode cX4_addKeeper 0 = .ok (.aload_n 0, 1) := by decide +kernel
theorem dX4_addKeeper_1 : decode cX4_addKeeper 1 = .ok (.getfield 37, 3) := by decide +kernel
theorem dX4_addKeeper_4 : decode cX4_addKeeper 4 = .ok (.bipush 12, 2) := by decide +kernel
theorem dX4_addKeeper_6 : decode cX4_addKeeper 6 = .ok (.if_icmp .lt 13, 3) := by decide +kernel
theorem dX4_addKeeper_9 : decode cX4_addKeeper 9 = .ok (.new 41, 3) := by decide +kernel
theorem dX4_addKeeper_12 : decode cX4_addKeeper 12 = .ok (.dup, 1) := by decide +kernel
theorem dX4_addKeeper_13 : decode cX4_addKeeper 13 = .ok (.ldc 43, 2) := by decide +kernel
theorem dX4_addKeeper_15 : decode cX4_addKeeper 15 = .ok (.invokespecial 45, 3) := by decide +kernel
theorem dX4_addKeeper_18 : decode cX4_addKeeper 18 = .ok (.athrow, 1) := by decide +kernel
theorem dX4_addKeeper_19 : decode cX4_addKeeper 19 = .ok (.aload_n 0, 1) := by decide +kernel
theorem dX4_addKeeper_20 : decode cX4_addKeeper 20 = .ok (.dup, 1) := by decide +kernel
theorem dX4_addKeeper_21 : decode cX4_addKeeper 21 = .ok (.getfield 37, 3) := by decide +kernel
theorem dX4_addKeeper_24 : decode cX4_addKeeper 24 = .ok (.iconst 1, 1) := by decide +kernel
theorem dX4_addKeeper_25 : decode cX4_addKeeper 25 = .ok (.iadd, 1) := by decide +kernel
theorem dX4_addKeeper_26 : decode cX4_addKeeper 26 = .ok (.putfield 37, 3) := by decide +kernel
theorem dX4_addKeeper_29 : decode cX4_addKeeper 29 = .ok (.aload_n 0, 1) := by decide +kernel
theorem dX4_addKeeper_30 : decode cX4_addKeeper 30 = .ok (.getfield 37, 3) := by decide +kernel
theorem dX4_addKeeper_33 : decode cX4_addKeeper 33 = .ok (.iconst 1, 1) := by decide +kernel
theorem dX4_addKeeper_34 : decode cX4_addKeeper 34 = .ok (.isub, 1) := by decide +kernel
theorem dX4_addKeeper_35 : decode cX4_addKeeper 35 = .ok (.ireturn, 1) := by decide +kernel
theorem dX4_pass_0 : decode cX4_pass 0 = .ok (.iload_n 1, 1) := by decide +kernel
theorem dX4_pass_1 : decode cX4_pass 1 = .ok (.iconst 1, 1) := by decide +kernel
theorem dX4_pass_2 : decode cX4_pass 2 = .ok (.if_icmp .lt 21, 3) := by decide +kernel
theorem dX4_pass_5 : decode cX4_pass 5 = .ok (.iload_n 1, 1) := by decide +kernel
theorem dX4_pass_6 : decode cX4_pass 6 = .ok (.bipush 99, 2) := by decide +kernel
theorem dX4_pass_8 : decode cX4_pass 8 = .ok (.if_icmp .gt 15, 3) := by decide +kernel
theorem dX4_pass_11 : decode cX4_pass 11 = .ok (.aload_n 0, 1) := by decide +kernel
theorem dX4_pass_12 : decode cX4_pass 12 = .ok (.getfield 48, 3) := by decide +kernel
theorem dX4_pass_15 : decode cX4_pass 15 = .ok (.iload_n 1, 1) := by decide +kernel
theorem dX4_pass_16 : decode cX4_pass 16 = .ok (.iadd, 1) := by decide +kernel
theorem dX4_pass_17 : decode cX4_pass 17 = .ok (.sipush 3000, 3) := by decide +kernel
theorem dX4_pass_20 : decode cX4_pass 20 = .ok (.if_icmp .le 13, 3) := by decide +kernel
theorem dX4_pass_23 : decode cX4_pass 23 = .ok (.new 51, 3) := by decide +kernel
theorem dX4_pass_26 : decode cX4_pass 26 = .ok (.dup, 1) := by decide +kernel
theorem dX4_pass_27 : decode cX4_pass 27 = .ok (.ldc 53, 2) := by decide +kernel
theorem dX4_pass_29 : decode cX4_pass 29 = .ok (.invokespecial 55, 3) := by decide +kernel
theorem dX4_pass_32 : decode cX4_pass 32 = .ok (.athrow, 1) := by decide +kernel
theorem dX4_pass_33 : decode cX4_pass 33 = .ok (.aload_n 0, 1) := by decide +kernel
theorem dX4_pass_34 : decode cX4_pass 34 = .ok (.dup, 1) := by decide +kernel
theorem dX4_pass_35 : decode cX4_pass 35 = .ok (.getfield 48, 3) := by decide +kernel
theorem dX4_pass_38 : decode cX4_pass 38 = .ok (.iload_n 1, 1) := by decide +kernel
theorem dX4_pass_39 : decode cX4_pass 39 = .ok (.iadd, 1) := by decide +kernel
theorem dX4_pass_40 : decode cX4_pass 40 = .ok (.putfield 48, 3) := by decide +kernel
theorem dX4_pass_43 : decode cX4_pass 43 = .ok (.aload_n 0, 1) := by decide +kernel
theorem dX4_pass_44 : decode cX4_pass 44 = .ok (.getfield 48, 3) := by decide +kernel
theorem dX4_pass_47 : decode cX4_pass 47 = .ok (.ireturn, 1) := by decide +kernel
theorem dX4_day_0 : decode cX4_day 0 = .ok (.aload_n 0, 1) := by decide +kernel
theorem dX4_day_1 : decode cX4_day 1 = .ok (.getfield 48, 3) := by decide +kernel
theorem dX4_day_4 : decode cX4_day 4 = .ok (.ireturn, 1) := by decide +kernel
theorem dX4_register_0 : decode cX4_register 0 = .ok (.aload_n 0, 1) := by decide +kernel
theorem dX4_register_1 : decode cX4_register 1 = .ok (.iload_n 1, 1) := by decide +kernel
theorem dX4_register_2 : decode cX4_register 2 = .ok (.invokevirtual 56, 3) := by decide +kernel
theorem dX4_register_5 : decode cX4_register 5 = .ok (.iload_n 2, 1) := by decide +kernel
theorem dX4_register_6 : decode cX4_register 6 = .ok (.invokestatic 60, 3) := by decide +kernel
theorem dX4_register_9 : decode cX4_register 9 = .ok (.aload_n 0, 1) := by decide +kernel
theorem dX4_register_10 : decode cX4_register 10 = .ok (.invokevirtual 64, 3) := by decide +kernel
theorem dX4_register_13 : decode cX4_register 13 = .ok (.aload_n 0, 1) := by decide +kernel
theorem dX4_register_14 : decode cX4_register 14 = .ok (.invokevirtual 67, 3) := by decide +kernel
theorem dX4_register_17 : decode cX4_register 17 = .ok (.aload_n 0, 1) := by decide +kernel
theorem dX4_register_18 : decode cX4_register 18 = .ok (.iload_n 1, 1) := by decide +kernel
theorem dX4_register_19 : decode cX4_register 19 = .ok (.iload_n 2, 1) := by decide +kernel
theorem dX4_register_20 : decode cX4_register 20 = .ok (.invokevirtual 70, 3) := by decide +kernel
theorem dX4_register_23 : decode cX4_register 23 = .ok (.astore_n 3, 1) := by decide +kernel
theorem dX4_register_24 : decode cX4_register 24 = .ok (.aload_n 0, 1) := by decide +kernel
theorem dX4_register_25 : decode cX4_register 25 = .ok (.aload_n 3, 1) := by decide +kernel
theorem dX4_register_26 : decode cX4_register 26 = .ok (.invokevirtual 74, 3) := by decide +kernel
theorem dX4_register_29 : decode cX4_register 29 = .ok (.aload_n 3, 1) := by decide +kernel
theorem dX4_register_30 : decode cX4_register 30 = .ok (.getfield 78, 3) := by decide +kernel
theorem dX4_register_33 : decode cX4_register 33 = .ok (.ireturn, 1) := by decide +kernel
theorem dX4_bringIn_0 : decode cX4_bringIn 0 = .ok (.aload_n 0, 1) := by decide +kernel
theorem dX4_bringIn_1 : decode cX4_bringIn 1 = .ok (.iload_n 1, 1) := by decide +kernel
theorem dX4_bringIn_2 : decode cX4_bringIn 2 = .ok (.invokevirtual 56, 3) := by decide +kernel
theorem dX4_bringIn_5 : decode cX4_bringIn 5 = .ok (.iload_n 2, 1) := by decide +kernel
theorem dX4_bringIn_6 : decode cX4_bringIn 6 = .ok (.invokestatic 60, 3) := by decide +kernel
theorem dX4_bringIn_9 : decode cX4_bringIn 9 = .ok (.aload_n 0, 1) := by decide +kernel
theorem dX4_bringIn_10 : decode cX4_bringIn 10 = .ok (.invokevirtual 64, 3) := by decide +kernel
theorem dX4_bringIn_13 : decode cX4_bringIn 13 = .ok (.aload_n 0, 1) := by decide +kernel
theorem dX4_bringIn_14 : decode cX4_bringIn 14 = .ok (.iload_n 1, 1) := by decide +kernel
theorem dX4_bringIn_15 : decode cX4_bringIn 15 = .ok (.iload_n 2, 1) := by decide +kernel
theorem dX4_bringIn_16 : decode cX4_bringIn 16 = .ok (.invokevirtual 70, 3) := by decide +kernel
theorem dX4_bringIn_19 : decode cX4_bringIn 19 = .ok (.getfield 78, 3) := by decide +kernel
theorem dX4_bringIn_22 : decode cX4_bringIn 22 = .ok (.ireturn, 1) := by decide +kernel
theorem dX4_admit_0 : decode cX4_admit 0 = .ok (.aload_n 0, 1) := by decide +kernel
theorem dX4_admit_1 : decode cX4_admit 1 = .ok (.iload_n 1, 1) := by decide +kernel
theorem dX4_admit_2 : decode cX4_admit 2 = .ok (.invokevirtual 81, 3) := by decide +kernel
theorem dX4_admit_5 : decode cX4_admit 5 = .ok (.astore_n 2, 1) := by decide +kernel
theorem dX4_admit_6 : decode cX4_admit 6 = .ok (.aload_n 2, 1) := by decide +kernel
theorem dX4_admit_7 : decode cX4_admit 7 = .ok (.getfield 85, 3) := by decide +kernel
theorem dX4_admit_10 : decode cX4_admit 10 = .ok (.ifCond .eq 13, 3) := by decide +kernel
theorem dX4_admit_13 : decode cX4_admit 13 = .ok (.new 89, 3) := by decide +kernel
theorem dX4_admit_16 : decode cX4_admit 16 = .ok (.dup, 1) := by decide +kernel
theorem dX4_admit_17 : decode cX4_admit 17 = .ok (.ldc 91, 2) := by decide +kernel
theorem dX4_admit_19 : decode cX4_admit 19 = .ok (.invokespecial 93, 3) := by decide +kernel
theorem dX4_admit_22 : decode cX4_admit 22 = .ok (.athrow, 1) := by decide +kernel
theorem dX4_admit_23 : decode cX4_admit 23 = .ok (.aload_n 2, 1) := by decide +kernel
theorem dX4_admit_24 : decode cX4_admit 24 = .ok (.getfield 94, 3) := by decide +kernel
theorem dX4_admit_27 : decode cX4_admit 27 = .ok (.ifCond .eq 13, 3) := by decide +kernel
theorem dX4_admit_30 : decode cX4_admit 30 = .ok (.new 41, 3) := by decide +kernel
theorem dX4_admit_33 : decode cX4_admit 33 = .ok (.dup, 1) := by decide +kernel
theorem dX4_admit_34 : decode cX4_admit 34 = .ok (.ldc 97, 2) := by decide +kernel
theorem dX4_admit_36 : decode cX4_admit 36 = .ok (.invokespecial 45, 3) := by decide +kernel
theorem dX4_admit_39 : decode cX4_admit 39 = .ok (.athrow, 1) := by decide +kernel
theorem dX4_admit_40 : decode cX4_admit 40 = .ok (.aload_n 0, 1) := by decide +kernel
theorem dX4_admit_41 : decode cX4_admit 41 = .ok (.invokevirtual 67, 3) := by decide +kernel
theorem dX4_admit_44 : decode cX4_admit 44 = .ok (.aload_n 0, 1) := by decide +kernel
theorem dX4_admit_45 : decode cX4_admit 45 = .ok (.aload_n 2, 1) := by decide +kernel
theorem dX4_admit_46 : decode cX4_admit 46 = .ok (.invokevirtual 74, 3) := by decide +kernel
theorem dX4_admit_49 : decode cX4_admit 49 = .ok (.aload_n 2, 1) := by decide +kernel
theorem dX4_admit_50 : decode cX4_admit 50 = .ok (.getfield 99, 3) := by decide +kernel
theorem dX4_admit_53 : decode cX4_admit 53 = .ok (.invokevirtual 103, 3) := by decide +kernel
theorem dX4_admit_56 : decode cX4_admit 56 = .ok (.ireturn, 1) := by decide +kernel
theorem dX4_setOnRoad_0 : decode cX4_setOnRoad 0 = .ok (.aload_n 0, 1) := by decide +kernel
theorem dX4_setOnRoad_1 : decode cX4_setOnRoad 1 = .ok (.iload_n 1, 1) := by decide +kernel
theorem dX4_setOnRoad_2 : decode cX4_setOnRoad 2 = .ok (.invokevirtual 81, 3) := by decide +kernel
theorem dX4_setOnRoad_5 : decode cX4_setOnRoad 5 = .ok (.astore_n 3, 1) := by decide +kernel
theorem dX4_setOnRoad_6 : decode cX4_setOnRoad 6 = .ok (.aload_n 3, 1) := by decide +kernel
theorem dX4_setOnRoad_7 : decode cX4_setOnRoad 7 = .ok (.getfield 94, 3) := by decide +kernel
theorem dX4_setOnRoad_10 : decode cX4_setOnRoad 10 = .ok (.ifCond .ne 10, 3) := by decide +kernel
theorem dX4_setOnRoad_13 : decode cX4_setOnRoad 13 = .ok (.aload_n 3, 1) := by decide +kernel
theorem dX4_setOnRoad_14 : decode cX4_setOnRoad 14 = .ok (.invokevirtual 109, 3) := by decide +kernel
theorem dX4_setOnRoad_17 : decode cX4_setOnRoad 17 = .ok (.ifCond .ne 13, 3) := by decide +kernel
theorem dX4_setOnRoad_20 : decode cX4_setOnRoad 20 = .ok (.new 89, 3) := by decide +kernel
theorem dX4_setOnRoad_23 : decode cX4_setOnRoad 23 = .ok (.dup, 1) := by decide +kernel
theorem dX4_setOnRoad_24 : decode cX4_setOnRoad 24 = .ok (.ldc 113, 2) := by decide +kernel
theorem dX4_setOnRoad_26 : decode cX4_setOnRoad 26 = .ok (.invokespecial 93, 3) := by decide +kernel
theorem dX4_setOnRoad_29 : decode cX4_setOnRoad 29 = .ok (.athrow, 1) := by decide +kernel
theorem dX4_setOnRoad_30 : decode cX4_setOnRoad 30 = .ok (.aload_n 3, 1) := by decide +kernel
theorem dX4_setOnRoad_31 : decode cX4_setOnRoad 31 = .ok (.invokevirtual 115, 3) := by decide +kernel
theorem dX4_setOnRoad_34 : decode cX4_setOnRoad 34 = .ok (.istore 4, 2) := by decide +kernel
theorem dX4_setOnRoad_36 : decode cX4_setOnRoad 36 = .ok (.aload_n 3, 1) := by decide +kernel
theorem dX4_setOnRoad_37 : decode cX4_setOnRoad 37 = .ok (.getfield 118, 3) := by decide +kernel
theorem dX4_setOnRoad_40 : decode cX4_setOnRoad 40 = .ok (.aload_n 0, 1) := by decide +kernel
theorem dX4_setOnRoad_41 : decode cX4_setOnRoad 41 = .ok (.getfield 48, 3) := by decide +kernel
theorem dX4_setOnRoad_44 : decode cX4_setOnRoad 44 = .ok (.iload_n 2, 1) := by decide +kernel
theorem dX4_setOnRoad_45 : decode cX4_setOnRoad 45 = .ok (.ifCond .eq 7, 3) := by decide +kernel
theorem dX4_setOnRoad_48 : decode cX4_setOnRoad 48 = .ok (.iconst 1, 1) := by decide +kernel
theorem dX4_setOnRoad_49 : decode cX4_setOnRoad 49 = .ok (.goto 4, 3) := by decide +kernel
theorem dX4_setOnRoad_52 : decode cX4_setOnRoad 52 = .ok (.iconst 0, 1) := by decide +kernel
theorem dX4_setOnRoad_53 : decode cX4_setOnRoad 53 = .ok (.invokevirtual 121, 3) := by decide +kernel
theorem dX4_setOnRoad_56 : decode cX4_setOnRoad 56 = .ok (.iload 4, 2) := by decide +kernel
theorem dX4_setOnRoad_58 : decode cX4_setOnRoad 58 = .ok (.ireturn, 1) := by decide +kernel
theorem dX4_isOnRoad_0 : decode cX4_isOnRoad 0 = .ok (.aload_n 0, 1) := by decide +kernel
theorem dX4_isOnRoad_1 : decode cX4_isOnRoad 1 = .ok (.iload_n 1, 1) := by decide +kernel
theorem dX4_isOnRoad_2 : decode cX4_isOnRoad 2 = .ok (.invokevirtual 81, 3) := by decide +kernel
theorem dX4_isOnRoad_5 : decode cX4_isOnRoad 5 = .ok (.astore_n 3, 1) := by decide +kernel
theorem dX4_isOnRoad_6 : decode cX4_isOnRoad 6 = .ok (.aload_n 0, 1) := by decide +kernel
theorem dX4_isOnRoad_7 : decode cX4_isOnRoad 7 = .ok (.iload_n 2, 1) := by decide +kernel
theorem dX4_isOnRoad_8 : decode cX4_isOnRoad 8 = .ok (.invokevirtual 125, 3) := by decide +kernel
theorem dX4_isOnRoad_11 : decode cX4_isOnRoad 11 = .ok (.aload_n 3, 1) := by decide +kernel
theorem dX4_isOnRoad_12 : decode cX4_isOnRoad 12 = .ok (.getfield 118, 3) := by decide +kernel
theorem dX4_isOnRoad_15 : decode cX4_isOnRoad 15 = .ok (.iload_n 2, 1) := by decide +kernel
theorem dX4_isOnRoad_16 : decode cX4_isOnRoad 16 = .ok (.invokevirtual 128, 3) := by decide +kernel
theorem dX4_isOnRoad_19 : decode cX4_isOnRoad 19 = .ok (.iconst 1, 1) := by decide +kernel
theorem dX4_isOnRoad_20 : decode cX4_isOnRoad 20 = .ok (.if_icmp .ne 7, 3) := by decide +kernel
theorem dX4_isOnRoad_23 : decode cX4_isOnRoad 23 = .ok (.iconst 1, 1) := by decide +kernel
theorem dX4_isOnRoad_24 : decode cX4_isOnRoad 24 = .ok (.goto 4, 3) := by decide +kernel
theorem dX4_isOnRoad_27 : decode cX4_isOnRoad 27 = .ok (.iconst 0, 1) := by decide +kernel
theorem dX4_isOnRoad_28 : decode cX4_isOnRoad 28 = .ok (.ireturn, 1) := by decide +kernel
theorem dX4_scrap_0 : decode cX4_scrap 0 = .ok (.aload_n 0, 1) := by decide +kernel
theorem dX4_scrap_1 : decode cX4_scrap 1 = .ok (.iload_n 1, 1) := by decide +kernel
theorem dX4_scrap_2 : decode cX4_scrap 2 = .ok (.invokevirtual 81, 3) := by decide +kernel
theorem dX4_scrap_5 : decode cX4_scrap 5 = .ok (.astore_n 2, 1) := by decide +kernel
theorem dX4_scrap_6 : decode cX4_scrap 6 = .ok (.aload_n 2, 1) := by decide +kernel
theorem dX4_scrap_7 : decode cX4_scrap 7 = .ok (.invokestatic 132, 3) := by decide +kernel
theorem dX4_scrap_10 : decode cX4_scrap 10 = .ok (.aload_n 2, 1) := by decide +kernel
theorem dX4_scrap_11 : decode cX4_scrap 11 = .ok (.iconst 1, 1) := by decide +kernel
theorem dX4_scrap_12 : decode cX4_scrap 12 = .ok (.putfield 94, 3) := by decide +kernel
theorem dX4_scrap_15 : decode cX4_scrap 15 = .ok (.aload_n 2, 1) := by decide +kernel
theorem dX4_scrap_16 : decode cX4_scrap 16 = .ok (.getfield 118, 3) := by decide +kernel
theorem dX4_scrap_19 : decode cX4_scrap 19 = .ok (.aload_n 0, 1) := by decide +kernel
theorem dX4_scrap_20 : decode cX4_scrap 20 = .ok (.getfield 48, 3) := by decide +kernel
theorem dX4_scrap_23 : decode cX4_scrap 23 = .ok (.iconst 0, 1) := by decide +kernel
theorem dX4_scrap_24 : decode cX4_scrap 24 = .ok (.invokevirtual 121, 3) := by decide +kernel
theorem dX4_scrap_27 : decode cX4_scrap 27 = .ok (.aload_n 0, 1) := by decide +kernel
theorem dX4_scrap_28 : decode cX4_scrap 28 = .ok (.aload_n 2, 1) := by decide +kernel
theorem dX4_scrap_29 : decode cX4_scrap 29 = .ok (.invokevirtual 135, 3) := by decide +kernel
theorem dX4_scrap_32 : decode cX4_scrap 32 = .ok (.astore_n 3, 1) := by decide +kernel
theorem dX4_scrap_33 : decode cX4_scrap 33 = .ok (.aload_n 3, 1) := by decide +kernel
theorem dX4_scrap_34 : decode cX4_scrap 34 = .ok (.ifnull 11, 3) := by decide +kernel
theorem dX4_scrap_37 : decode cX4_scrap 37 = .ok (.aload_n 3, 1) := by decide +kernel
theorem dX4_scrap_38 : decode cX4_scrap 38 = .ok (.aload_n 0, 1) := by decide +kernel
theorem dX4_scrap_39 : decode cX4_scrap 39 = .ok (.getfield 48, 3) := by decide +kernel
theorem dX4_scrap_42 : decode cX4_scrap 42 = .ok (.invokevirtual 139, 3) := by decide +kernel
theorem dX4_scrap_45 : decode cX4_scrap 45 = .ok (.aload_n 2, 1) := by decide +kernel
theorem dX4_scrap_46 : decode cX4_scrap 46 = .ok (.getfield 99, 3) := by decide +kernel
theorem dX4_scrap_49 : decode cX4_scrap 49 = .ok (.aload_n 0, 1) := by decide +kernel
theorem dX4_scrap_50 : decode cX4_scrap 50 = .ok (.getfield 48, 3) := by decide +kernel
theorem dX4_scrap_53 : decode cX4_scrap 53 = .ok (.iconst (-1), 1) := by decide +kernel
theorem dX4_scrap_54 : decode cX4_scrap 54 = .ok (.invokevirtual 121, 3) := by decide +kernel
theorem dX4_scrap_57 : decode cX4_scrap 57 = .ok (.aload_n 0, 1) := by decide +kernel
theorem dX4_scrap_58 : decode cX4_scrap 58 = .ok (.invokevirtual 142, 3) := by decide +kernel
theorem dX4_scrap_61 : decode cX4_scrap 61 = .ok (.ireturn, 1) := by decide +kernel
theorem dX4_kindOf_0 : decode cX4_kindOf 0 = .ok (.aload_n 0, 1) := by decide +kernel
theorem dX4_kindOf_1 : decode cX4_kindOf 1 = .ok (.iload_n 1, 1) := by decide +kernel
theorem dX4_kindOf_2 : decode cX4_kindOf 2 = .ok (.invokevirtual 81, 3) := by decide +kernel
theorem dX4_kindOf_5 : decode cX4_kindOf 5 = .ok (.getfield 145, 3) := by decide +kernel
theorem dX4_kindOf_8 : decode cX4_kindOf 8 = .ok (.ireturn, 1) := by decide +kernel
theorem dX4_vehicles_0 : decode cX4_vehicles 0 = .ok (.aload_n 0, 1) := by decide +kernel
theorem dX4_vehicles_1 : decode cX4_vehicles 1 = .ok (.getfield 149, 3) := by decide +kernel
theorem dX4_vehicles_4 : decode cX4_vehicles 4 = .ok (.ireturn, 1) := by decide +kernel
theorem dX4_sell_0 : decode cX4_sell 0 = .ok (.aload_n 0, 1) := by decide +kernel
theorem dX4_sell_1 : decode cX4_sell 1 = .ok (.iload_n 1, 1) := by decide +kernel
theorem dX4_sell_2 : decode cX4_sell 2 = .ok (.invokevirtual 56, 3) := by decide +kernel
theorem dX4_sell_5 : decode cX4_sell 5 = .ok (.aload_n 0, 1) := by decide +kernel
theorem dX4_sell_6 : decode cX4_sell 6 = .ok (.iload_n 3, 1) := by decide +kernel
theorem dX4_sell_7 : decode cX4_sell 7 = .ok (.invokevirtual 56, 3) := by decide +kernel
theorem dX4_sell_10 : decode cX4_sell 10 = .ok (.aload_n 0, 1) := by decide +kernel
theorem dX4_sell_11 : decode cX4_sell 11 = .ok (.iload_n 2, 1) := by decide +kernel
theorem dX4_sell_12 : decode cX4_sell 12 = .ok (.invokevirtual 81, 3) := by decide +kernel
theorem dX4_sell_15 : decode cX4_sell 15 = .ok (.astore 5, 2) := by decide +kernel
theorem dX4_sell_17 : decode cX4_sell 17 = .ok (.aload_n 0, 1) := by decide +kernel
theorem dX4_sell_18 : decode cX4_sell 18 = .ok (.iload 4, 2) := by decide +kernel
theorem dX4_sell_20 : decode cX4_sell 20 = .ok (.invokevirtual 125, 3) := by decide +kernel
theorem dX4_sell_23 : decode cX4_sell 23 = .ok (.iload_n 1, 1) := by decide +kernel
theorem dX4_sell_24 : decode cX4_sell 24 = .ok (.iload_n 3, 1) := by decide +kernel
theorem dX4_sell_25 : decode cX4_sell 25 = .ok (.if_icmp .ne 13, 3) := by decide +kernel
theorem dX4_sell_28 : decode cX4_sell 28 = .ok (.new 89, 3) := by decide +kernel
theorem dX4_sell_31 : decode cX4_sell 31 = .ok (.dup, 1) := by decide +kernel
theorem dX4_sell_32 : decode cX4_sell 32 = .ok (.ldc 152, 2) := by decide +kernel
theorem dX4_sell_34 : decode cX4_sell 34 = .ok (.invokespecial 93, 3) := by decide +kernel
theorem dX4_sell_37 : decode cX4_sell 37 = .ok (.athrow, 1) := by decide +kernel
theorem dX4_sell_38 : decode cX4_sell 38 = .ok (.aload_n 0, 1) := by decide +kernel
theorem dX4_sell_39 : decode cX4_sell 39 = .ok (.invokevirtual 154, 3) := by decide +kernel
theorem dX4_sell_42 : decode cX4_sell 42 = .ok (.aload_n 0, 1) := by decide +kernel
theorem dX4_sell_43 : decode cX4_sell 43 = .ok (.iload_n 1, 1) := by decide +kernel
theorem dX4_sell_44 : decode cX4_sell 44 = .ok (.aload 5, 2) := by decide +kernel
theorem dX4_sell_46 : decode cX4_sell 46 = .ok (.iload_n 3, 1) := by decide +kernel
theorem dX4_sell_47 : decode cX4_sell 47 = .ok (.iload 4, 2) := by decide +kernel
theorem dX4_sell_49 : decode cX4_sell 49 = .ok (.invokevirtual 157, 3) := by decide +kernel
theorem dX4_sell_52 : decode cX4_sell 52 = .ok (.ireturn, 1) := by decide +kernel
theorem dX4_buy_0 : decode cX4_buy 0 = .ok (.aload_n 0, 1) := by decide +kernel
theorem dX4_buy_1 : decode cX4_buy 1 = .ok (.iload_n 1, 1) := by decide +kernel
theorem dX4_buy_2 : decode cX4_buy 2 = .ok (.invokevirtual 56, 3) := by decide +kernel
theorem dX4_buy_5 : decode cX4_buy 5 = .ok (.aload_n 0, 1) := by decide +kernel
theorem dX4_buy_6 : decode cX4_buy 6 = .ok (.iload_n 2, 1) := by decide +kernel
theorem dX4_buy_7 : decode cX4_buy 7 = .ok (.invokevirtual 81, 3) := by decide +kernel
theorem dX4_buy_10 : decode cX4_buy 10 = .ok (.astore 4, 2) := by decide +kernel
theorem dX4_buy_12 : decode cX4_buy 12 = .ok (.aload_n 0, 1) := by decide +kernel
theorem dX4_buy_13 : decode cX4_buy 13 = .ok (.iload_n 3, 1) := by decide +kernel
theorem dX4_buy_14 : decode cX4_buy 14 = .ok (.invokevirtual 125, 3) := by decide +kernel
theorem dX4_buy_17 : decode cX4_buy 17 = .ok (.aload_n 0, 1) := by decide +kernel
theorem dX4_buy_18 : decode cX4_buy 18 = .ok (.invokevirtual 154, 3) := by decide +kernel
theorem dX4_buy_21 : decode cX4_buy 21 = .ok (.aload_n 0, 1) := by decide +kernel
theorem dX4_buy_22 : decode cX4_buy 22 = .ok (.iconst (-1), 1) := by decide +kernel
theorem dX4_buy_23 : decode cX4_buy 23 = .ok (.aload 4, 2) := by decide +kernel
theorem dX4_buy_25 : decode cX4_buy 25 = .ok (.iload_n 1, 1) := by decide +kernel
theorem dX4_buy_26 : decode cX4_buy 26 = .ok (.iload_n 3, 1) := by decide +kernel
theorem dX4_buy_27 : decode cX4_buy 27 = .ok (.invokevirtual 157, 3) := by decide +kernel
theorem dX4_buy_30 : decode cX4_buy 30 = .ok (.ireturn, 1) := by decide +kernel
theorem dX4_withdraw_0 : decode cX4_withdraw 0 = .ok (.aload_n 0, 1) := by decide +kernel
theorem dX4_withdraw_1 : decode cX4_withdraw 1 = .ok (.iload_n 1, 1) := by decide +kernel
theorem dX4_withdraw_2 : decode cX4_withdraw 2 = .ok (.invokevirtual 161, 3) := by decide +kernel
theorem dX4_withdraw_5 : decode cX4_withdraw 5 = .ok (.astore_n 2, 1) := by decide +kernel
theorem dX4_withdraw_6 : decode cX4_withdraw 6 = .ok (.aload_n 2, 1) := by decide +kernel
theorem dX4_withdraw_7 : decode cX4_withdraw 7 = .ok (.getfield 165, 3) := by decide +kernel
theorem dX4_withdraw_10 : decode cX4_withdraw 10 = .ok (.bipush 111, 2) := by decide +kernel
theorem dX4_withdraw_12 : decode cX4_withdraw 12 = .ok (.if_icmp .eq 13, 3) := by decide +kernel
theorem dX4_withdraw_15 : decode cX4_withdraw 15 = .ok (.new 41, 3) := by decide +kernel
theorem dX4_withdraw_18 : decode cX4_withdraw 18 = .ok (.dup, 1) := by decide +kernel
theorem dX4_withdraw_19 : decode cX4_withdraw 19 = .ok (.ldc 168, 2) := by decide +kernel
theorem dX4_withdraw_21 : decode cX4_withdraw 21 = .ok (.invokespecial 45, 3) := by decide +kernel
theorem dX4_withdraw_24 : decode cX4_withdraw 24 = .ok (.athrow, 1) := by decide +kernel
theorem dX4_withdraw_25 : decode cX4_withdraw 25 = .ok (.aload_n 2, 1) := by decide +kernel
theorem dX4_withdraw_26 : decode cX4_withdraw 26 = .ok (.bipush 119, 2) := by decide +kernel
theorem dX4_withdraw_28 : decode cX4_withdraw 28 = .ok (.putfield 165, 3) := by decide +kernel
theorem dX4_withdraw_31 : decode cX4_withdraw 31 = .ok (.aload_n 0, 1) := by decide +kernel
theorem dX4_withdraw_32 : decode cX4_withdraw 32 = .ok (.invokevirtual 170, 3) := by decide +kernel
theorem dX4_withdraw_35 : decode cX4_withdraw 35 = .ok (.ireturn, 1) := by decide +kernel
theorem dX4_stateOf_0 : decode cX4_stateOf 0 = .ok (.aload_n 0, 1) := by decide +kernel
theorem dX4_stateOf_1 : decode cX4_stateOf 1 = .ok (.iload_n 1, 1) := by decide +kernel
theorem dX4_stateOf_2 : decode cX4_stateOf 2 = .ok (.invokevirtual 161, 3) := by decide +kernel
theorem dX4_stateOf_5 : decode cX4_stateOf 5 = .ok (.getfield 165, 3) := by decide +kernel
theorem dX4_stateOf_8 : decode cX4_stateOf 8 = .ok (.ireturn, 1) := by decide +kernel
theorem dX4_partnerOf_0 : decode cX4_partnerOf 0 = .ok (.aload_n 0, 1) := by decide +kernel
theorem dX4_partnerOf_1 : decode cX4_partnerOf 1 = .ok (.iload_n 1, 1) := by decide +kernel
theorem dX4_partnerOf_2 : decode cX4_partnerOf 2 = .ok (.invokevirtual 161, 3) := by decide +kernel
theorem dX4_partnerOf_5 : decode cX4_partnerOf 5 = .ok (.astore_n 2, 1) := by decide +kernel
theorem dX4_partnerOf_6 : decode cX4_partnerOf 6 = .ok (.aload_n 2, 1) := by decide +kernel
theorem dX4_partnerOf_7 : decode cX4_partnerOf 7 = .ok (.getfield 165, 3) := by decide +kernel
theorem dX4_partnerOf_10 : decode cX4_partnerOf 10 = .ok (.bipush 117, 2) := by decide +kernel
theorem dX4_partnerOf_12 : decode cX4_partnerOf 12 = .ok (.if_icmp .eq 13, 3) := by decide +kernel
theorem dX4_partnerOf_15 : decode cX4_partnerOf 15 = .ok (.new 41, 3) := by decide +kernel
theorem dX4_partnerOf_18 : decode cX4_partnerOf 18 = .ok (.dup, 1) := by decide +kernel
theorem dX4_partnerOf_19 : decode cX4_partnerOf 19 = .ok (.ldc 173, 2) := by decide +kernel
theorem dX4_partnerOf_21 : decode cX4_partnerOf 21 = .ok (.invokespecial 45, 3) := by decide +kernel
theorem dX4_partnerOf_24 : decode cX4_partnerOf 24 = .ok (.athrow, 1) := by decide +kernel
theorem dX4_partnerOf_25 : decode cX4_partnerOf 25 = .ok (.aload_n 2, 1) := by decide +kernel
theorem dX4_partnerOf_26 : decode cX4_partnerOf 26 = .ok (.getfield 175, 3) := by decide +kernel
theorem dX4_partnerOf_29 : decode cX4_partnerOf 29 = .ok (.ireturn, 1) := by decide +kernel
theorem dX4_openNotices_0 : decode cX4_openNotices 0 = .ok (.aload_n 0, 1) := by decide +kernel
theorem dX4_openNotices_1 : decode cX4_openNotices 1 = .ok (.iload_n 1, 1) := by decide +kernel
theorem dX4_openNotices_2 : decode cX4_openNotices 2 = .ok (.invokevirtual 81, 3) := by decide +kernel
theorem dX4_openNotices_5 : decode cX4_openNotices 5 = .ok (.astore_n 2, 1) := by decide +kernel
theorem dX4_openNotices_6 : decode cX4_openNotices 6 = .ok (.iconst 0, 1) := by decide +kernel
theorem dX4_openNotices_7 : decode cX4_openNotices 7 = .ok (.istore_n 3, 1) := by decide +kernel
theorem dX4_openNotices_8 : decode cX4_openNotices 8 = .ok (.aload_n 0, 1) := by decide +kernel
theorem dX4_openNotices_9 : decode cX4_openNotices 9 = .ok (.getfield 23, 3) := by decide +kernel
theorem dX4_openNotices_12 : decode cX4_openNotices 12 = .ok (.astore 4, 2) := by decide +kernel
theorem dX4_openNotices_14 : decode cX4_openNotices 14 = .ok (.aload 4, 2) := by decide +kernel
theorem dX4_openNotices_16 : decode cX4_openNotices 16 = .ok (.arraylength, 1) := by decide +kernel
theorem dX4_openNotices_17 : decode cX4_openNotices 17 = .ok (.istore 5, 2) := by decide +kernel
theorem dX4_openNotices_19 : decode cX4_openNotices 19 = .ok (.iconst 0, 1) := by decide +kernel
theorem dX4_openNotices_20 : decode cX4_openNotices 20 = .ok (.istore 6, 2) := by decide +kernel
theorem dX4_openNotices_22 : decode cX4_openNotices 22 = .ok (.iload 6, 2) := by decide +kernel
theorem dX4_openNotices_24 : decode cX4_openNotices 24 = .ok (.iload 5, 2) := by decide +kernel
theorem dX4_openNotices_26 : decode cX4_openNotices 26 = .ok (.if_icmp .ge 36, 3) := by decide +kernel
theorem dX4_openNotices_29 : decode cX4_openNotices 29 = .ok (.aload 4, 2) := by decide +kernel
theorem dX4_openNotices_31 : decode cX4_openNotices 31 = .ok (.iload 6, 2) := by decide +kernel
theorem dX4_openNotices_33 : decode cX4_openNotices 33 = .ok (.aaload, 1) := by decide +kernel
theorem dX4_openNotices_34 : decode cX4_openNotices 34 = .ok (.astore 7, 2) := by decide +kernel
theorem dX4_openNotices_36 : decode cX4_openNotices 36 = .ok (.aload 7, 2) := by decide +kernel
theorem dX4_openNotices_38 : decode cX4_openNotices 38 = .ok (.ifnull 18, 3) := by decide +kernel
theorem dX4_openNotices_41 : decode cX4_openNotices 41 = .ok (.aload 7, 2) := by decide +kernel
theorem dX4_openNotices_43 : decode cX4_openNotices 43 = .ok (.aload_n 2, 1) := by decide +kernel
theorem dX4_openNotices_44 : decode cX4_openNotices 44 = .ok (.getfield 78, 3) := by decide +kernel
theorem dX4_openNotices_47 : decode cX4_openNotices 47 = .ok (.invokevirtual 178, 3) := by decide +kernel
theorem dX4_openNotices_50 : decode cX4_openNotices 50 = .ok (.ifCond .eq 6, 3) := by decide +kernel
theorem dX4_openNotices_53 : decode cX4_openNotices 53 = .ok (.iinc 3 1, 3) := by decide +kernel
theorem dX4_openNotices_56 : decode cX4_openNotices 56 = .ok (.iinc 6 1, 3) := by decide +kernel
theorem dX4_openNotices_59 : decode cX4_openNotices 59 = .ok (.goto (-37), 3) := by decide +kernel
theorem dX4_openNotices_62 : decode cX4_openNotices 62 = .ok (.iload_n 3, 1) := by decide +kernel
theorem dX4_openNotices_63 : decode cX4_openNotices 63 = .ok (.ireturn, 1) := by decide +kernel
theorem dX4_keeperOn_0 : decode cX4_keeperOn 0 = .ok (.aload_n 0, 1) := by decide +kernel
theorem dX4_keeperOn_1 : decode cX4_keeperOn 1 = .ok (.iload_n 1, 1) := by decide +kernel
theorem dX4_keeperOn_2 : decode cX4_keeperOn 2 = .ok (.invokevirtual 81, 3) := by decide +kernel
theorem dX4_keeperOn_5 : decode cX4_keeperOn 5 = .ok (.astore_n 3, 1) := by decide +kernel
theorem dX4_keeperOn_6 : decode cX4_keeperOn 6 = .ok (.aload_n 0, 1) := by decide +kernel
theorem dX4_keeperOn_7 : decode cX4_keeperOn 7 = .ok (.iload_n 2, 1) := by decide +kernel
theorem dX4_keeperOn_8 : decode cX4_keeperOn 8 = .ok (.invokevirtual 125, 3) := by decide +kernel
theorem dX4_keeperOn_11 : decode cX4_keeperOn 11 = .ok (.aload_n 3, 1) := by decide +kernel
theorem dX4_keeperOn_12 : decode cX4_keeperOn 12 = .ok (.getfield 182, 3) := by decide +kernel
theorem dX4_keeperOn_15 : decode cX4_keeperOn 15 = .ok (.iload_n 2, 1) := by decide +kernel
theorem dX4_keeperOn_16 : decode cX4_keeperOn 16 = .ok (.invokevirtual 128, 3) := by decide +kernel
theorem dX4_keeperOn_19 : decode cX4_keeperOn 19 = .ok (.invokestatic 185, 3) := by decide +kernel
theorem dX4_keeperOn_22 : decode cX4_keeperOn 22 = .ok (.ireturn, 1) := by decide +kernel
theorem dX4_keeperByGoing_0 : decode cX4_keeperByGoing 0 = .ok (.aload_n 0, 1) := by decide +kernel
theorem dX4_keeperByGoing_1 : decode cX4_keeperByGoing 1 = .ok (.iload_n 1, 1) := by decide +kernel
theorem dX4_keeperByGoing_2 : decode cX4_keeperByGoing 2 = .ok (.invokevirtual 81, 3) := by decide +kernel
theorem dX4_keeperByGoing_5 : decode cX4_keeperByGoing 5 = .ok (.astore_n 3, 1) := by decide +kernel
theorem dX4_keeperByGoing_6 : decode cX4_keeperByGoing 6 = .ok (.aload_n 0, 1) := by decide +kernel
theorem dX4_keeperByGoing_7 : decode cX4_keeperByGoing 7 = .ok (.iload_n 2, 1) := by decide +kernel
theorem dX4_keeperByGoing_8 : decode cX4_keeperByGoing 8 = .ok (.invokevirtual 125, 3) := by decide +kernel
theorem dX4_keeperByGoing_11 : decode cX4_keeperByGoing 11 = .ok (.aload_n 3, 1) := by decide +kernel
theorem dX4_keeperByGoing_12 : decode cX4_keeperByGoing 12 = .ok (.getfield 182, 3) := by decide +kernel
theorem dX4_keeperByGoing_15 : decode cX4_keeperByGoing 15 = .ok (.iload_n 2, 1) := by decide +kernel
theorem dX4_keeperByGoing_16 : decode cX4_keeperByGoing 16 = .ok (.invokevirtual 188, 3) := by decide +kernel
theorem dX4_keeperByGoing_19 : decode cX4_keeperByGoing 19 = .ok (.invokestatic 185, 3) := by decide +kernel
theorem dX4_keeperByGoing_22 : decode cX4_keeperByGoing 22 = .ok (.ireturn, 1) := by decide +kernel
theorem dX4_transfers_0 : decode cX4_transfers 0 = .ok (.aload_n 0, 1) := by decide +kernel
theorem dX4_transfers_1 : decode cX4_transfers 1 = .ok (.iload_n 1, 1) := by decide +kernel
theorem dX4_transfers_2 : decode cX4_transfers 2 = .ok (.invokevirtual 81, 3) := by decide +kernel
theorem dX4_transfers_5 : decode cX4_transfers 5 = .ok (.getfield 182, 3) := by decide +kernel
theorem dX4_transfers_8 : decode cX4_transfers 8 = .ok (.getfield 191, 3) := by decide +kernel
theorem dX4_transfers_11 : decode cX4_transfers 11 = .ok (.ireturn, 1) := by decide +kernel
theorem dX4_transferDay_0 : decode cX4_transferDay 0 = .ok (.aload_n 0, 1) := by decide +kernel
theorem dX4_transferDay_1 : decode cX4_transferDay 1 = .ok (.iload_n 1, 1) := by decide +kernel
theorem dX4_transferDay_2 : decode cX4_transferDay 2 = .ok (.invokevirtual 81, 3) := by decide +kernel
theorem dX4_transferDay_5 : decode cX4_transferDay 5 = .ok (.getfield 182, 3) := by decide +kernel
theorem dX4_transferDay_8 : decode cX4_transferDay 8 = .ok (.astore_n 3, 1) := by decide +kernel
theorem dX4_transferDay_9 : decode cX4_transferDay 9 = .ok (.iload_n 2, 1) := by decide +kernel
theorem dX4_transferDay_10 : decode cX4_transferDay 10 = .ok (.ifCond .lt 11, 3) := by decide +kernel
theorem dX4_transferDay_13 : decode cX4_transferDay 13 = .ok (.iload_n 2, 1) := by decide +kernel
theorem dX4_transferDay_14 : decode cX4_transferDay 14 = .ok (.aload_n 3, 1) := by decide +kernel
theorem dX4_transferDay_15 : decode cX4_transferDay 15 = .ok (.getfield 191, 3) := by decide +kernel
theorem dX4_transferDay_18 : decode cX4_transferDay 18 = .ok (.if_icmp .lt 13, 3) := by decide +kernel
theorem dX4_transferDay_21 : decode cX4_transferDay 21 = .ok (.new 194, 3) := by decide +kernel
theorem dX4_transferDay_24 : decode cX4_transferDay 24 = .ok (.dup, 1) := by decide +kernel
theorem dX4_transferDay_25 : decode cX4_transferDay 25 = .ok (.ldc 196, 2) := by decide +kernel
theorem dX4_transferDay_27 : decode cX4_transferDay 27 = .ok (.invokespecial 198, 3) := by decide +kernel
theorem dX4_transferDay_30 : decode cX4_transferDay 30 = .ok (.athrow, 1) := by decide +kernel
theorem dX4_transferDay_31 : decode cX4_transferDay 31 = .ok (.aload_n 3, 1) := by decide +kernel
theorem dX4_transferDay_32 : decode cX4_transferDay 32 = .ok (.iload_n 2, 1) := by decide +kernel
theorem dX4_transferDay_33 : decode cX4_transferDay 33 = .ok (.invokevirtual 199, 3) := by decide +kernel
theorem dX4_transferDay_36 : decode cX4_transferDay 36 = .ok (.ireturn, 1) := by decide +kernel
theorem dX4_keptBy_0 : decode cX4_keptBy 0 = .ok (.aload_n 0, 1) := by decide +kernel
theorem dX4_keptBy_1 : decode cX4_keptBy 1 = .ok (.iload_n 1, 1) := by decide +kernel
theorem dX4_keptBy_2 : decode cX4_keptBy 2 = .ok (.invokevirtual 56, 3) := by decide +kernel
theorem dX4_keptBy_5 : decode cX4_keptBy 5 = .ok (.iconst 0, 1) := by decide +kernel
theorem dX4_keptBy_6 : decode cX4_keptBy 6 = .ok (.istore_n 2, 1) := by decide +kernel
theorem dX4_keptBy_7 : decode cX4_keptBy 7 = .ok (.aload_n 0, 1) := by decide +kernel
theorem dX4_keptBy_8 : decode cX4_keptBy 8 = .ok (.getfield 11, 3) := by decide +kernel
theorem dX4_keptBy_11 : decode cX4_keptBy 11 = .ok (.astore_n 3, 1) := by decide +kernel
theorem dX4_keptBy_12 : decode cX4_keptBy 12 = .ok (.aload_n 3, 1) := by decide +kernel
theorem dX4_keptBy_13 : decode cX4_keptBy 13 = .ok (.arraylength, 1) := by decide +kernel
theorem dX4_keptBy_14 : decode cX4_keptBy 14 = .ok (.istore 4, 2) := by decide +kernel
theorem dX4_keptBy_16 : decode cX4_keptBy 16 = .ok (.iconst 0, 1) := by decide +kernel
theorem dX4_keptBy_17 : decode cX4_keptBy 17 = .ok (.istore 5, 2) := by decide +kernel
theorem dX4_keptBy_19 : decode cX4_keptBy 19 = .ok (.iload 5, 2) := by decide +kernel
theorem dX4_keptBy_21 : decode cX4_keptBy 21 = .ok (.iload 4, 2) := by decide +kernel
theorem dX4_keptBy_23 : decode cX4_keptBy 23 = .ok (.if_icmp .ge 43, 3) := by decide +kernel
theorem dX4_keptBy_26 : decode cX4_keptBy 26 = .ok (.aload_n 3, 1) := by decide +kernel
theorem dX4_keptBy_27 : decode cX4_keptBy 27 = .ok (.iload 5, 2) := by decide +kernel
theorem dX4_keptBy_29 : decode cX4_keptBy 29 = .ok (.aaload, 1) := by decide +kernel
theorem dX4_keptBy_30 : decode cX4_keptBy 30 = .ok (.astore 6, 2) := by decide +kernel
theorem dX4_keptBy_32 : decode cX4_keptBy 32 = .ok (.aload 6, 2) := by decide +kernel
theorem dX4_keptBy_34 : decode cX4_keptBy 34 = .ok (.ifnull 26, 3) := by decide +kernel
theorem dX4_keptBy_37 : decode cX4_keptBy 37 = .ok (.aload 6, 2) := by decide +kernel
theorem dX4_keptBy_39 : decode cX4_keptBy 39 = .ok (.getfield 94, 3) := by decide +kernel
theorem dX4_keptBy_42 : decode cX4_keptBy 42 = .ok (.ifCond .ne 18, 3) := by decide +kernel
theorem dX4_keptBy_45 : decode cX4_keptBy 45 = .ok (.aload 6, 2) := by decide +kernel
theorem dX4_keptBy_47 : decode cX4_keptBy 47 = .ok (.getfield 182, 3) := by decide +kernel
theorem dX4_keptBy_50 : decode cX4_keptBy 50 = .ok (.invokevirtual 103, 3) := by decide +kernel
theorem dX4_keptBy_53 : decode cX4_keptBy 53 = .ok (.iload_n 1, 1) := by decide +kernel
theorem dX4_keptBy_54 : decode cX4_keptBy 54 = .ok (.if_icmp .ne 6, 3) := by decide +kernel
theorem dX4_keptBy_57 : decode cX4_keptBy 57 = .ok (.iinc 2 1, 3) := by decide +kernel
theorem dX4_keptBy_60 : decode cX4_keptBy 60 = .ok (.iinc 5 1, 3) := by decide +kernel
theorem dX4_keptBy_63 : decode cX4_keptBy 63 = .ok (.goto (-44), 3) := by decide +kernel
theorem dX4_keptBy_66 : decode cX4_keptBy 66 = .ok (.iload_n 2, 1) := by decide +kernel
theorem dX4_keptBy_67 : decode cX4_keptBy 67 = .ok (.ireturn, 1) := by decide +kernel
theorem dX4_addLien_0 : decode cX4_addLien 0 = .ok (.aload_n 0, 1) := by decide +kernel
theorem dX4_addLien_1 : decode cX4_addLien 1 = .ok (.iload_n 1, 1) := by decide +kernel
theorem dX4_addLien_2 : decode cX4_addLien 2 = .ok (.invokevirtual 81, 3) := by decide +kernel
theorem dX4_addLien_5 : decode cX4_addLien 5 = .ok (.astore 4, 2) := by decide +kernel
theorem dX4_addLien_7 : decode cX4_addLien 7 = .ok (.iload_n 2, 1) := by decide +kernel
theorem dX4_addLien_8 : decode cX4_addLien 8 = .ok (.invokestatic 202, 3) := by decide +kernel
theorem dX4_addLien_11 : decode cX4_addLien 11 = .ok (.ifCond .eq 15, 3) := by decide +kernel
theorem dX4_addLien_14 : decode cX4_addLien 14 = .ok (.iload_n 3, 1) := by decide +kernel
theorem dX4_addLien_15 : decode cX4_addLien 15 = .ok (.iconst 1, 1) := by decide +kernel
theorem dX4_addLien_16 : decode cX4_addLien 16 = .ok (.if_icmp .lt 10, 3) := by decide +kernel
theorem dX4_addLien_19 : decode cX4_addLien 19 = .ok (.iload_n 3, 1) := by decide +kernel
theorem dX4_addLien_20 : decode cX4_addLien 20 = .ok (.sipush 9999, 3) := by decide +kernel
theorem dX4_addLien_23 : decode cX4_addLien 23 = .ok (.if_icmp .le 13, 3) := by decide +kernel
theorem dX4_addLien_26 : decode cX4_addLien 26 = .ok (.new 51, 3) := by decide +kernel
theorem dX4_addLien_29 : decode cX4_addLien 29 = .ok (.dup, 1) := by decide +kernel
theorem dX4_addLien_30 : decode cX4_addLien 30 = .ok (.ldc 206, 2) := by decide +kernel
theorem dX4_addLien_32 : decode cX4_addLien 32 = .ok (.invokespecial 55, 3) := by decide +kernel
theorem dX4_addLien_35 : decode cX4_addLien 35 = .ok (.athrow, 1) := by decide +kernel
theorem dX4_addLien_36 : decode cX4_addLien 36 = .ok (.aload 4, 2) := by decide +kernel
theorem dX4_addLien_38 : decode cX4_addLien 38 = .ok (.getfield 94, 3) := by decide +kernel
theorem dX4_addLien_41 : decode cX4_addLien 41 = .ok (.ifCond .eq 13, 3) := by decide +kernel
theorem dX4_addLien_44 : decode cX4_addLien 44 = .ok (.new 41, 3) := by decide +kernel
theorem dX4_addLien_47 : decode cX4_addLien 47 = .ok (.dup, 1) := by decide +kernel
theorem dX4_addLien_48 : decode cX4_addLien 48 = .ok (.ldc 97, 2) := by decide +kernel
theorem dX4_addLien_50 : decode cX4_addLien 50 = .ok (.invokespecial 45, 3) := by decide +kernel
theorem dX4_addLien_53 : decode cX4_addLien 53 = .ok (.athrow, 1) := by decide +kernel
theorem dX4_addLien_54 : decode cX4_addLien 54 = .ok (.aload 4, 2) := by decide +kernel
theorem dX4_addLien_56 : decode cX4_addLien 56 = .ok (.getfield 208, 3) := by decide +kernel
theorem dX4_addLien_59 : decode cX4_addLien 59 = .ok (.iload_n 2, 1) := by decide +kernel
theorem dX4_addLien_60 : decode cX4_addLien 60 = .ok (.bipush 97, 2) := by decide +kernel
theorem dX4_addLien_62 : decode cX4_addLien 62 = .ok (.isub, 1) := by decide +kernel
theorem dX4_addLien_63 : decode cX4_addLien 63 = .ok (.iload_n 3, 1) := by decide +kernel
theorem dX4_addLien_64 : decode cX4_addLien 64 = .ok (.invokestatic 211, 3) := by decide +kernel
theorem dX4_addLien_67 : decode cX4_addLien 67 = .ok (.aload 4, 2) := by decide +kernel
theorem dX4_addLien_69 : decode cX4_addLien 69 = .ok (.iload_n 2, 1) := by decide +kernel
theorem dX4_addLien_70 : decode cX4_addLien 70 = .ok (.invokevirtual 215, 3) := by decide +kernel
theorem dX4_addLien_73 : decode cX4_addLien 73 = .ok (.ireturn, 1) := by decide +kernel
theorem dX4_payLien_0 : decode cX4_payLien 0 = .ok (.aload_n 0, 1) := by decide +kernel
theorem dX4_payLien_1 : decode cX4_payLien 1 = .ok (.iload_n 1, 1) := by decide +kernel
theorem dX4_payLien_2 : decode cX4_payLien 2 = .ok (.invokevirtual 81, 3) := by decide +kernel
theorem dX4_payLien_5 : decode cX4_payLien 5 = .ok (.astore 4, 2) := by decide +kernel
theorem dX4_payLien_7 : decode cX4_payLien 7 = .ok (.aload 4, 2) := by decide +kernel
theorem dX4_payLien_9 : decode cX4_payLien 9 = .ok (.iload_n 2, 1) := by decide +kernel
theorem dX4_payLien_10 : decode cX4_payLien 10 = .ok (.invokestatic 219, 3) := by decide +kernel
theorem dX4_payLien_13 : decode cX4_payLien 13 = .ok (.istore 5, 2) := by decide +kernel
theorem dX4_payLien_15 : decode cX4_payLien 15 = .ok (.iload_n 3, 1) := by decide +kernel
theorem dX4_payLien_16 : decode cX4_payLien 16 = .ok (.iconst 1, 1) := by decide +kernel
theorem dX4_payLien_17 : decode cX4_payLien 17 = .ok (.if_icmp .lt 9, 3) := by decide +kernel
theorem dX4_payLien_20 : decode cX4_payLien 20 = .ok (.iload_n 3, 1) := by decide +kernel
theorem dX4_payLien_21 : decode cX4_payLien 21 = .ok (.iload 5, 2) := by decide +kernel
theorem dX4_payLien_23 : decode cX4_payLien 23 = .ok (.if_icmp .le 13, 3) := by decide +kernel
theorem dX4_payLien_26 : decode cX4_payLien 26 = .ok (.new 51, 3) := by decide +kernel
theorem dX4_payLien_29 : decode cX4_payLien 29 = .ok (.dup, 1) := by decide +kernel
theorem dX4_payLien_30 : decode cX4_payLien 30 = .ok (.ldc 223, 2) := by decide +kernel
theorem dX4_payLien_32 : decode cX4_payLien 32 = .ok (.invokespecial 55, 3) := by decide +kernel
theorem dX4_payLien_35 : decode cX4_payLien 35 = .ok (.athrow, 1) := by decide +kernel
theorem dX4_payLien_36 : decode cX4_payLien 36 = .ok (.aload 4, 2) := by decide +kernel
theorem dX4_payLien_38 : decode cX4_payLien 38 = .ok (.getfield 208, 3) := by decide +kernel
theorem dX4_payLien_41 : decode cX4_payLien 41 = .ok (.iload_n 2, 1) := by decide +kernel
theorem dX4_payLien_42 : decode cX4_payLien 42 = .ok (.bipush 97, 2) := by decide +kernel
theorem dX4_payLien_44 : decode cX4_payLien 44 = .ok (.isub, 1) := by decide +kernel
theorem dX4_payLien_45 : decode cX4_payLien 45 = .ok (.iload_n 3, 1) := by decide +kernel
theorem dX4_payLien_46 : decode cX4_payLien 46 = .ok (.ineg, 1) := by decide +kernel
theorem dX4_payLien_47 : decode cX4_payLien 47 = .ok (.invokestatic 211, 3) := by decide +kernel
theorem dX4_payLien_50 : decode cX4_payLien 50 = .ok (.iload_n 3, 1) := by decide +kernel
theorem dX4_payLien_51 : decode cX4_payLien 51 = .ok (.iload 5, 2) := by decide +kernel
theorem dX4_payLien_53 : decode cX4_payLien 53 = .ok (.if_icmp .ne 9, 3) := by decide +kernel
theorem dX4_payLien_56 : decode cX4_payLien 56 = .ok (.aload_n 0, 1) := by decide +kernel
theorem dX4_payLien_57 : decode cX4_payLien 57 = .ok (.aload 4, 2) := by decide +kernel
theorem dX4_payLien_59 : decode cX4_payLien 59 = .ok (.invokevirtual 225, 3) := by decide +kernel
theorem dX4_payLien_62 : decode cX4_payLien 62 = .ok (.iload 5, 2) := by decide +kernel
theorem dX4_payLien_64 : decode cX4_payLien 64 = .ok (.iload_n 3, 1) := by decide +kernel
theorem dX4_payLien_65 : decode cX4_payLien 65 = .ok (.isub, 1) := by decide +kernel
theorem dX4_payLien_66 : decode cX4_payLien 66 = .ok (.ireturn, 1) := by decide +kernel
theorem dX4_lienOf_0 : decode cX4_lienOf 0 = .ok (.aload_n 0, 1) := by decide +kernel
theorem dX4_lienOf_1 : decode cX4_lienOf 1 = .ok (.iload_n 1, 1) := by decide +kernel
theorem dX4_lienOf_2 : decode cX4_lienOf 2 = .ok (.invokevirtual 81, 3) := by decide +kernel
theorem dX4_lienOf_5 : decode cX4_lienOf 5 = .ok (.iload_n 2, 1) := by decide +kernel
theorem dX4_lienOf_6 : decode cX4_lienOf 6 = .ok (.invokestatic 219, 3) := by decide +kernel
theorem dX4_lienOf_9 : decode cX4_lienOf 9 = .ok (.ireturn, 1) := by decide +kernel
theorem dX4_isBlocked_0 : decode cX4_isBlocked 0 = .ok (.aload_n 0, 1) := by decide +kernel
theorem dX4_isBlocked_1 : decode cX4_isBlocked 1 = .ok (.iload_n 1, 1) := by decide +kernel
theorem dX4_isBlocked_2 : decode cX4_isBlocked 2 = .ok (.invokevirtual 81, 3) := by decide +kernel
theorem dX4_isBlocked_5 : decode cX4_isBlocked 5 = .ok (.invokevirtual 228, 3) := by decide +kernel
theorem dX4_isBlocked_8 : decode cX4_isBlocked 8 = .ok (.ireturn, 1) := by decide +kernel
theorem dX4_keepPlate_0 : decode cX4_keepPlate 0 = .ok (.aload_n 0, 1) := by decide +kernel
theorem dX4_keepPlate_1 : decode cX4_keepPlate 1 = .ok (.iload_n 1, 1) := by decide +kernel
theorem dX4_keepPlate_2 : decode cX4_keepPlate 2 = .ok (.invokevirtual 81, 3) := by decide +kernel
theorem dX4_keepPlate_5 : decode cX4_keepPlate 5 = .ok (.astore_n 2, 1) := by decide +kernel
theorem dX4_keepPlate_6 : decode cX4_keepPlate 6 = .ok (.aload_n 0, 1) := by decide +kernel
theorem dX4_keepPlate_7 : decode cX4_keepPlate 7 = .ok (.aload_n 2, 1) := by decide +kernel
theorem dX4_keepPlate_8 : decode cX4_keepPlate 8 = .ok (.invokevirtual 135, 3) := by decide +kernel
theorem dX4_keepPlate_11 : decode cX4_keepPlate 11 = .ok (.astore_n 3, 1) := by decide +kernel
theorem dX4_keepPlate_12 : decode cX4_keepPlate 12 = .ok (.aload_n 3, 1) := by decide +kernel
theorem dX4_keepPlate_13 : decode cX4_keepPlate 13 = .ok (.ifnonnull 13, 3) := by decide +kernel
theorem dX4_keepPlate_16 : decode cX4_keepPlate 16 = .ok (.new 231, 3) := by decide +kernel
theorem dX4_keepPlate_19 : decode cX4_keepPlate 19 = .ok (.dup, 1) := by decide +kernel
theorem dX4_keepPlate_20 : decode cX4_keepPlate 20 = .ok (.ldc 233, 2) := by decide +kernel
theorem dX4_keepPlate_22 : decode cX4_keepPlate 22 = .ok (.invokespecial 235, 3) := by decide +kernel
theorem dX4_keepPlate_25 : decode cX4_keepPlate 25 = .ok (.athrow, 1) := by decide +kernel
theorem dX4_keepPlate_26 : decode cX4_keepPlate 26 = .ok (.aload_n 2, 1) := by decide +kernel
theorem dX4_keepPlate_27 : decode cX4_keepPlate 27 = .ok (.invokestatic 132, 3) := by decide +kernel
theorem dX4_keepPlate_30 : decode cX4_keepPlate 30 = .ok (.aload_n 0, 1) := by decide +kernel
theorem dX4_keepPlate_31 : decode cX4_keepPlate 31 = .ok (.invokevirtual 67, 3) := by decide +kernel
theorem dX4_keepPlate_34 : decode cX4_keepPlate 34 = .ok (.aload_n 3, 1) := by decide +kernel
theorem dX4_keepPlate_35 : decode cX4_keepPlate 35 = .ok (.aload_n 2, 1) := by decide +kernel
theorem dX4_keepPlate_36 : decode cX4_keepPlate 36 = .ok (.getfield 182, 3) := by decide +kernel
theorem dX4_keepPlate_39 : decode cX4_keepPlate 39 = .ok (.invokevirtual 103, 3) := by decide +kernel
theorem dX4_keepPlate_42 : decode cX4_keepPlate 42 = .ok (.aload_n 0, 1) := by decide +kernel
theorem dX4_keepPlate_43 : decode cX4_keepPlate 43 = .ok (.getfield 48, 3) := by decide +kernel
theorem dX4_keepPlate_46 : decode cX4_keepPlate 46 = .ok (.invokevirtual 236, 3) := by decide +kernel
theorem dX4_keepPlate_49 : decode cX4_keepPlate 49 = .ok (.aload_n 0, 1) := by decide +kernel
theorem dX4_keepPlate_50 : decode cX4_keepPlate 50 = .ok (.invokevirtual 239, 3) := by decide +kernel
theorem dX4_keepPlate_53 : decode cX4_keepPlate 53 = .ok (.astore 4, 2) := by decide +kernel
theorem dX4_keepPlate_55 : decode cX4_keepPlate 55 = .ok (.aload_n 0, 1) := by decide +kernel
theorem dX4_keepPlate_56 : decode cX4_keepPlate 56 = .ok (.aload 4, 2) := by decide +kernel
theorem dX4_keepPlate_58 : decode cX4_keepPlate 58 = .ok (.aload_n 2, 1) := by decide +kernel
theorem dX4_keepPlate_59 : decode cX4_keepPlate 59 = .ok (.invokevirtual 243, 3) := by decide +kernel
theorem dX4_keepPlate_62 : decode cX4_keepPlate 62 = .ok (.aload 4, 2) := by decide +kernel
theorem dX4_keepPlate_64 : decode cX4_keepPlate 64 = .ok (.getfield 247, 3) := by decide +kernel
theorem dX4_keepPlate_67 : decode cX4_keepPlate 67 = .ok (.ireturn, 1) := by decide +kernel
theorem dX4_putOn_0 : decode cX4_putOn 0 = .ok (.aload_n 0, 1) := by decide +kernel
theorem dX4_putOn_1 : decode cX4_putOn 1 = .ok (.iload_n 1, 1) := by decide +kernel
theorem dX4_putOn_2 : decode cX4_putOn 2 = .ok (.invokevirtual 248, 3) := by decide +kernel
theorem dX4_putOn_5 : decode cX4_putOn 5 = .ok (.astore_n 3, 1) := by decide +kernel
theorem dX4_putOn_6 : decode cX4_putOn 6 = .ok (.aload_n 0, 1) := by decide +kernel
theorem dX4_putOn_7 : decode cX4_putOn 7 = .ok (.iload_n 2, 1) := by decide +kernel
theorem dX4_putOn_8 : decode cX4_putOn 8 = .ok (.invokevirtual 81, 3) := by decide +kernel
theorem dX4_putOn_11 : decode cX4_putOn 11 = .ok (.astore 4, 2) := by decide +kernel
theorem dX4_putOn_13 : decode cX4_putOn 13 = .ok (.aload_n 3, 1) := by decide +kernel
theorem dX4_putOn_14 : decode cX4_putOn 14 = .ok (.aload_n 0, 1) := by decide +kernel
theorem dX4_putOn_15 : decode cX4_putOn 15 = .ok (.getfield 48, 3) := by decide +kernel
theorem dX4_putOn_18 : decode cX4_putOn 18 = .ok (.invokevirtual 252, 3) := by decide +kernel
theorem dX4_putOn_21 : decode cX4_putOn 21 = .ok (.ifCond .eq 18, 3) := by decide +kernel
theorem dX4_putOn_24 : decode cX4_putOn 24 = .ok (.aload_n 3, 1) := by decide +kernel
theorem dX4_putOn_25 : decode cX4_putOn 25 = .ok (.getfield 255, 3) := by decide +kernel
theorem dX4_putOn_28 : decode cX4_putOn 28 = .ok (.aload 4, 2) := by decide +kernel
theorem dX4_putOn_30 : decode cX4_putOn 30 = .ok (.getfield 182, 3) := by decide +kernel
theorem dX4_putOn_33 : decode cX4_putOn 33 = .ok (.invokevirtual 103, 3) := by decide +kernel
theorem dX4_putOn_36 : decode cX4_putOn 36 = .ok (.if_icmp .eq 14, 3) := by decide +kernel
theorem dX4_putOn_39 : decode cX4_putOn 39 = .ok (.new 89, 3) := by decide +kernel
theorem dX4_putOn_42 : decode cX4_putOn 42 = .ok (.dup, 1) := by decide +kernel
theorem dX4_putOn_43 : decode cX4_putOn 43 = .ok (.ldc_w 258, 3) := by decide +kernel
theorem dX4_putOn_46 : decode cX4_putOn 46 = .ok (.invokespecial 93, 3) := by decide +kernel
theorem dX4_putOn_49 : decode cX4_putOn 49 = .ok (.athrow, 1) := by decide +kernel
theorem dX4_putOn_50 : decode cX4_putOn 50 = .ok (.aload_n 0, 1) := by decide +kernel
theorem dX4_putOn_51 : decode cX4_putOn 51 = .ok (.aload 4, 2) := by decide +kernel
theorem dX4_putOn_53 : decode cX4_putOn 53 = .ok (.invokevirtual 260, 3) := by decide +kernel
theorem dX4_putOn_56 : decode cX4_putOn 56 = .ok (.astore 5, 2) := by decide +kernel
theorem dX4_putOn_58 : decode cX4_putOn 58 = .ok (.aload 5, 2) := by decide +kernel
theorem dX4_putOn_60 : decode cX4_putOn 60 = .ok (.aload_n 0, 1) := by decide +kernel
theorem dX4_putOn_61 : decode cX4_putOn 61 = .ok (.getfield 48, 3) := by decide +kernel
theorem dX4_putOn_64 : decode cX4_putOn 64 = .ok (.invokevirtual 139, 3) := by decide +kernel
theorem dX4_putOn_67 : decode cX4_putOn 67 = .ok (.aload_n 0, 1) := by decide +kernel
theorem dX4_putOn_68 : decode cX4_putOn 68 = .ok (.aload_n 3, 1) := by decide +kernel
theorem dX4_putOn_69 : decode cX4_putOn 69 = .ok (.aload 4, 2) := by decide +kernel
theorem dX4_putOn_71 : decode cX4_putOn 71 = .ok (.invokevirtual 243, 3) := by decide +kernel
theorem dX4_putOn_74 : decode cX4_putOn 74 = .ok (.aload 5, 2) := by decide +kernel
theorem dX4_putOn_76 : decode cX4_putOn 76 = .ok (.getfield 247, 3) := by decide +kernel
theorem dX4_putOn_79 : decode cX4_putOn 79 = .ok (.ireturn, 1) := by decide +kernel
theorem dX4_swapPlates_0 : decode cX4_swapPlates 0 = .ok (.aload_n 0, 1) := by decide +kernel
theorem dX4_swapPlates_1 : decode cX4_swapPlates 1 = .ok (.iload_n 1, 1) := by decide +kernel
theorem dX4_swapPlates_2 : decode cX4_swapPlates 2 = .ok (.invokevirtual 81, 3) := by decide +kernel
theorem dX4_swapPlates_5 : decode cX4_swapPlates 5 = .ok (.astore_n 3, 1) := by decide +kernel
theorem dX4_swapPlates_6 : decode cX4_swapPlates 6 = .ok (.aload_n 0, 1) := by decide +kernel
theorem dX4_swapPlates_7 : decode cX4_swapPlates 7 = .ok (.iload_n 2, 1) := by decide +kernel
theorem dX4_swapPlates_8 : decode cX4_swapPlates 8 = .ok (.invokevirtual 81, 3) := by decide +kernel
theorem dX4_swapPlates_11 : decode cX4_swapPlates 11 = .ok (.astore 4, 2) := by decide +kernel
theorem dX4_swapPlates_13 : decode cX4_swapPlates 13 = .ok (.iload_n 1, 1) := by decide +kernel
theorem dX4_swapPlates_14 : decode cX4_swapPlates 14 = .ok (.iload_n 2, 1) := by decide +kernel
theorem dX4_swapPlates_15 : decode cX4_swapPlates 15 = .ok (.if_icmp .eq 21, 3) := by decide +kernel
theorem dX4_swapPlates_18 : decode cX4_swapPlates 18 = .ok (.aload_n 3, 1) := by decide +kernel
theorem dX4_swapPlates_19 : decode cX4_swapPlates 19 = .ok (.getfield 182, 3) := by decide +kernel
theorem dX4_swapPlates_22 : decode cX4_swapPlates 22 = .ok (.invokevirtual 103, 3) := by decide +kernel
theorem dX4_swapPlates_25 : decode cX4_swapPlates 25 = .ok (.aload 4, 2) := by decide +kernel
theorem dX4_swapPlates_27 : decode cX4_swapPlates 27 = .ok (.getfield 182, 3) := by decide +kernel
theorem dX4_swapPlates_30 : decode cX4_swapPlates 30 = .ok (.invokevirtual 103, 3) := by decide +kernel
theorem dX4_swapPlates_33 : decode cX4_swapPlates 33 = .ok (.if_icmp .eq 14, 3) := by decide +kernel
theorem dX4_swapPlates_36 : decode cX4_swapPlates 36 = .ok (.new 89, 3) := by decide +kernel
theorem dX4_swapPlates_39 : decode cX4_swapPlates 39 = .ok (.dup, 1) := by decide +kernel
theorem dX4_swapPlates_40 : decode cX4_swapPlates 40 = .ok (.ldc_w 263, 3) := by decide +kernel
theorem dX4_swapPlates_43 : decode cX4_swapPlates 43 = .ok (.invokespecial 93, 3) := by decide +kernel
theorem dX4_swapPlates_46 : decode cX4_swapPlates 46 = .ok (.athrow, 1) := by decide +kernel
theorem dX4_swapPlates_47 : decode cX4_swapPlates 47 = .ok (.aload_n 0, 1) := by decide +kernel
theorem dX4_swapPlates_48 : decode cX4_swapPlates 48 = .ok (.aload_n 3, 1) := by decide +kernel
theorem dX4_swapPlates_49 : decode cX4_swapPlates 49 = .ok (.invokevirtual 260, 3) := by decide +kernel
theorem dX4_swapPlates_52 : decode cX4_swapPlates 52 = .ok (.astore 5, 2) := by decide +kernel
theorem dX4_swapPlates_54 : decode cX4_swapPlates 54 = .ok (.aload_n 0, 1) := by decide +kernel
theorem dX4_swapPlates_55 : decode cX4_swapPlates 55 = .ok (.aload 4, 2) := by decide +kernel
theorem dX4_swapPlates_57 : decode cX4_swapPlates 57 = .ok (.invokevirtual 260, 3) := by decide +kernel
theorem dX4_swapPlates_60 : decode cX4_swapPlates 60 = .ok (.astore 6, 2) := by decide +kernel
theorem dX4_swapPlates_62 : decode cX4_swapPlates 62 = .ok (.aload_n 0, 1) := by decide +kernel
theorem dX4_swapPlates_63 : decode cX4_swapPlates 63 = .ok (.aload 6, 2) := by decide +kernel
theorem dX4_swapPlates_65 : decode cX4_swapPlates 65 = .ok (.aload_n 3, 1) := by decide +kernel
theorem dX4_swapPlates_66 : decode cX4_swapPlates 66 = .ok (.invokevirtual 243, 3) := by decide +kernel
theorem dX4_swapPlates_69 : decode cX4_swapPlates 69 = .ok (.aload_n 0, 1) := by decide +kernel
theorem dX4_swapPlates_70 : decode cX4_swapPlates 70 = .ok (.aload 5, 2) := by decide +kernel
theorem dX4_swapPlates_72 : decode cX4_swapPlates 72 = .ok (.aload 4, 2) := by decide +kernel
theorem dX4_swapPlates_74 : decode cX4_swapPlates 74 = .ok (.invokevirtual 243, 3) := by decide +kernel
theorem dX4_swapPlates_77 : decode cX4_swapPlates 77 = .ok (.aload 6, 2) := by decide +kernel
theorem dX4_swapPlates_79 : decode cX4_swapPlates 79 = .ok (.getfield 247, 3) := by decide +kernel
theorem dX4_swapPlates_82 : decode cX4_swapPlates 82 = .ok (.ireturn, 1) := by decide +kernel
theorem dX4_plateState_0 : decode cX4_plateState 0 = .ok (.aload_n 0, 1) := by decide +kernel
theorem dX4_plateState_1 : decode cX4_plateState 1 = .ok (.iload_n 1, 1) := by decide +kernel
theorem dX4_plateState_2 : decode cX4_plateState 2 = .ok (.invokevirtual 248, 3) := by decide +kernel
theorem dX4_plateState_5 : decode cX4_plateState 5 = .ok (.astore_n 2, 1) := by decide +kernel
theorem dX4_plateState_6 : decode cX4_plateState 6 = .ok (.aload_n 2, 1) := by decide +kernel
theorem dX4_plateState_7 : decode cX4_plateState 7 = .ok (.getfield 265, 3) := by decide +kernel
theorem dX4_plateState_10 : decode cX4_plateState 10 = .ok (.invokevirtual 103, 3) := by decide +kernel
theorem dX4_plateState_13 : decode cX4_plateState 13 = .ok (.iconst (-1), 1) := by decide +kernel
theorem dX4_plateState_14 : decode cX4_plateState 14 = .ok (.if_icmp .eq 6, 3) := by decide +kernel
theorem dX4_plateState_17 : decode cX4_plateState 17 = .ok (.bipush 118, 2) := by decide +kernel
theorem dX4_plateState_19 : decode cX4_plateState 19 = .ok (.ireturn, 1) := by decide +kernel
theorem dX4_plateState_20 : decode cX4_plateState 20 = .ok (.aload_n 2, 1) := by decide +kernel
theorem dX4_plateState_21 : decode cX4_plateState 21 = .ok (.aload_n 0, 1) := by decide +kernel
theorem dX4_plateState_22 : decode cX4_plateState 22 = .ok (.getfield 48, 3) := by decide +kernel
theorem dX4_plateState_25 : decode cX4_plateState 25 = .ok (.invokevirtual 252, 3) := by decide +kernel
theorem dX4_plateState_28 : decode cX4_plateState 28 = .ok (.ifCond .eq 8, 3) := by decide +kernel
theorem dX4_plateState_31 : decode cX4_plateState 31 = .ok (.bipush 107, 2) := by decide +kernel
theorem dX4_plateState_33 : decode cX4_plateState 33 = .ok (.goto 5, 3) := by decide +kernel
theorem dX4_plateState_36 : decode cX4_plateState 36 = .ok (.bipush 120, 2) := by decide +kernel
theorem dX4_plateState_38 : decode cX4_plateState 38 = .ok (.ireturn, 1) := by decide +kernel
theorem dX4_daysKept_0 : decode cX4_daysKept 0 = .ok (.aload_n 0, 1) := by decide +kernel
theorem dX4_daysKept_1 : decode cX4_daysKept 1 = .ok (.iload_n 1, 1) := by decide +kernel
theorem dX4_daysKept_2 : decode cX4_daysKept 2 = .ok (.invokevirtual 248, 3) := by decide +kernel
theorem dX4_daysKept_5 : decode cX4_daysKept 5 = .ok (.astore_n 2, 1) := by decide +kernel
theorem dX4_daysKept_6 : decode cX4_daysKept 6 = .ok (.aload_n 2, 1) := by decide +kernel
theorem dX4_daysKept_7 : decode cX4_daysKept 7 = .ok (.aload_n 0, 1) := by decide +kernel
theorem dX4_daysKept_8 : decode cX4_daysKept 8 = .ok (.getfield 48, 3) := by decide +kernel
theorem dX4_daysKept_11 : decode cX4_daysKept 11 = .ok (.invokevirtual 252, 3) := by decide +kernel
theorem dX4_daysKept_14 : decode cX4_daysKept 14 = .ok (.ifCond .ne 14, 3) := by decide +kernel
theorem dX4_daysKept_17 : decode cX4_daysKept 17 = .ok (.new 41, 3) := by decide +kernel
theorem dX4_daysKept_20 : decode cX4_daysKept 20 = .ok (.dup, 1) := by decide +kernel
theorem dX4_daysKept_21 : decode cX4_daysKept 21 = .ok (.ldc_w 268, 3) := by decide +kernel
theorem dX4_daysKept_24 : decode cX4_daysKept 24 = .ok (.invokespecial 45, 3) := by decide +kernel
theorem dX4_daysKept_27 : decode cX4_daysKept 27 = .ok (.athrow, 1) := by decide +kernel
theorem dX4_daysKept_28 : decode cX4_daysKept 28 = .ok (.aload_n 2, 1) := by decide +kernel
theorem dX4_daysKept_29 : decode cX4_daysKept 29 = .ok (.invokevirtual 270, 3) := by decide +kernel
theorem dX4_daysKept_32 : decode cX4_daysKept 32 = .ok (.aload_n 0, 1) := by decide +kernel
theorem dX4_daysKept_33 : decode cX4_daysKept 33 = .ok (.getfield 48, 3) := by decide +kernel
theorem dX4_daysKept_36 : decode cX4_daysKept 36 = .ok (.isub, 1) := by decide +kernel
theorem dX4_daysKept_37 : decode cX4_daysKept 37 = .ok (.ireturn, 1) := by decide +kernel
theorem dX4_plates_0 : decode cX4_plates 0 = .ok (.aload_n 0, 1) := by decide +kernel
theorem dX4_plates_1 : decode cX4_plates 1 = .ok (.getfield 273, 3) := by decide +kernel
theorem dX4_plates_4 : decode cX4_plates 4 = .ok (.ireturn, 1) := by decide +kernel
theorem dX4_plateOn_0 : decode cX4_plateOn 0 = .ok (.aload_n 0, 1) := by decide +kernel
theorem dX4_plateOn_1 : decode cX4_plateOn 1 = .ok (.iload_n 1, 1) := by decide +kernel
theorem dX4_plateOn_2 : decode cX4_plateOn 2 = .ok (.invokevirtual 81, 3) := by decide +kernel
theorem dX4_plateOn_5 : decode cX4_plateOn 5 = .ok (.astore_n 3, 1) := by decide +kernel
theorem dX4_plateOn_6 : decode cX4_plateOn 6 = .ok (.aload_n 0, 1) := by decide +kernel
theorem dX4_plateOn_7 : decode cX4_plateOn 7 = .ok (.iload_n 2, 1) := by decide +kernel
theorem dX4_plateOn_8 : decode cX4_plateOn 8 = .ok (.invokevirtual 125, 3) := by decide +kernel
theorem dX4_plateOn_11 : decode cX4_plateOn 11 = .ok (.aload_n 3, 1) := by decide +kernel
theorem dX4_plateOn_12 : decode cX4_plateOn 12 = .ok (.getfield 99, 3) := by decide +kernel
theorem dX4_plateOn_15 : decode cX4_plateOn 15 = .ok (.iload_n 2, 1) := by decide +kernel
theorem dX4_plateOn_16 : decode cX4_plateOn 16 = .ok (.invokevirtual 128, 3) := by decide +kernel
theorem dX4_plateOn_19 : decode cX4_plateOn 19 = .ok (.invokestatic 185, 3) := by decide +kernel
theorem dX4_plateOn_22 : decode cX4_plateOn 22 = .ok (.ireturn, 1) := by decide +kernel
theorem dX4_vehicleWith_0 : decode cX4_vehicleWith 0 = .ok (.aload_n 0, 1) := by decide +kernel
theorem dX4_vehicleWith_1 : decode cX4_vehicleWith 1 = .ok (.iload_n 1, 1) := by decide +kernel
theorem dX4_vehicleWith_2 : decode cX4_vehicleWith 2 = .ok (.invokevirtual 248, 3) := by decide +kernel
theorem dX4_vehicleWith_5 : decode cX4_vehicleWith 5 = .ok (.astore_n 3, 1) := by decide +kernel
theorem dX4_vehicleWith_6 : decode cX4_vehicleWith 6 = .ok (.aload_n 0, 1) := by decide +kernel
theorem dX4_vehicleWith_7 : decode cX4_vehicleWith 7 = .ok (.iload_n 2, 1) := by decide +kernel
theorem dX4_vehicleWith_8 : decode cX4_vehicleWith 8 = .ok (.invokevirtual 125, 3) := by decide +kernel
theorem dX4_vehicleWith_11 : decode cX4_vehicleWith 11 = .ok (.aload_n 3, 1) := by decide +kernel
theorem dX4_vehicleWith_12 : decode cX4_vehicleWith 12 = .ok (.getfield 265, 3) := by decide +kernel
theorem dX4_vehicleWith_15 : decode cX4_vehicleWith 15 = .ok (.iload_n 2, 1) := by decide +kernel
theorem dX4_vehicleWith_16 : decode cX4_vehicleWith 16 = .ok (.invokevirtual 128, 3) := by decide +kernel
theorem dX4_vehicleWith_19 : decode cX4_vehicleWith 19 = .ok (.invokestatic 276, 3) := by decide +kernel
theorem dX4_vehicleWith_22 : decode cX4_vehicleWith 22 = .ok (.ireturn, 1) := by decide +kernel
theorem dX4_vehicleByVehicles_0 : decode cX4_vehicleByVehicles 0 = .ok (.aload_n 0, 1) := by decide +kernel
theorem dX4_vehicleByVehicles_1 : decode cX4_vehicleByVehicles 1 = .ok (.iload_n 1, 1) := by decide +kernel
theorem dX4_vehicleByVehicles_2 : decode cX4_vehicleByVehicles 2 = .ok (.invokevirtual 248, 3) := by decide +kernel
theorem dX4_vehicleByVehicles_5 : decode cX4_vehicleByVehicles 5 = .ok (.astore_n 3, 1) := by decide +kernel
theorem dX4_vehicleByVehicles_6 : decode cX4_vehicleByVehicles 6 = .ok (.aload_n 0, 1) := by decide +kernel
theorem dX4_vehicleByVehicles_7 : decode cX4_vehicleByVehicles 7 = .ok (.iload_n 2, 1) := by decide +kernel
theorem dX4_vehicleByVehicles_8 : decode cX4_vehicleByVehicles 8 = .ok (.invokevirtual 125, 3) := by decide +kernel
theorem dX4_vehicleByVehicles_11 : decode cX4_vehicleByVehicles 11 = .ok (.aload_n 0, 1) := by decide +kernel
theorem dX4_vehicleByVehicles_12 : decode cX4_vehicleByVehicles 12 = .ok (.aload_n 3, 1) := by decide +kernel
theorem dX4_vehicleByVehicles_13 : decode cX4_vehicleByVehicles 13 = .ok (.getfield 247, 3) := by decide +kernel
theorem dX4_vehicleByVehicles_16 : decode cX4_vehicleByVehicles 16 = .ok (.iload_n 2, 1) := by decide +kernel
theorem dX4_vehicleByVehicles_17 : decode cX4_vehicleByVehicles 17 = .ok (.invokevirtual 279, 3) := by decide +kernel
theorem dX4_vehicleByVehicles_20 : decode cX4_vehicleByVehicles 20 = .ok (.invokestatic 276, 3) := by decide +kernel
theorem dX4_vehicleByVehicles_23 : decode cX4_vehicleByVehicles 23 = .ok (.ireturn, 1) := by decide +kernel
theorem dX4_due_0 : decode cX4_due 0 = .ok (.aload_n 0, 1) := by decide +kernel
theorem dX4_due_1 : decode cX4_due 1 = .ok (.iload_n 1, 1) := by decide +kernel
theorem dX4_due_2 : decode cX4_due 2 = .ok (.invokevirtual 81, 3) := by decide +kernel
theorem dX4_due_5 : decode cX4_due 5 = .ok (.astore_n 3, 1) := by decide +kernel
theorem dX4_due_6 : decode cX4_due 6 = .ok (.iload_n 2, 1) := by decide +kernel
theorem dX4_due_7 : decode cX4_due 7 = .ok (.ifCond .lt 14, 3) := by decide +kernel
theorem dX4_due_10 : decode cX4_due 10 = .ok (.iload_n 2, 1) := by decide +kernel
theorem dX4_due_11 : decode cX4_due 11 = .ok (.aload_n 0, 1) := by decide +kernel
theorem dX4_due_12 : decode cX4_due 12 = .ok (.getfield 48, 3) := by decide +kernel
theorem dX4_due_15 : decode cX4_due 15 = .ok (.bipush 90, 2) := by decide +kernel
theorem dX4_due_17 : decode cX4_due 17 = .ok (.idiv, 1) := by decide +kernel
theorem dX4_due_18 : decode cX4_due 18 = .ok (.if_icmp .le 14, 3) := by decide +kernel
theorem dX4_due_21 : decode cX4_due 21 = .ok (.new 51, 3) := by decide +kernel
theorem dX4_due_24 : decode cX4_due 24 = .ok (.dup, 1) := by decide +kernel
theorem dX4_due_25 : decode cX4_due 25 = .ok (.ldc_w 283, 3) := by decide +kernel
theorem dX4_due_28 : decode cX4_due 28 = .ok (.invokespecial 55, 3) := by decide +kernel
theorem dX4_due_31 : decode cX4_due 31 = .ok (.athrow, 1) := by decide +kernel
theorem dX4_due_32 : decode cX4_due 32 = .ok (.aload_n 0, 1) := by decide +kernel
theorem dX4_due_33 : decode cX4_due 33 = .ok (.aload_n 3, 1) := by decide +kernel
theorem dX4_due_34 : decode cX4_due 34 = .ok (.iload_n 2, 1) := by decide +kernel
theorem dX4_due_35 : decode cX4_due 35 = .ok (.invokevirtual 285, 3) := by decide +kernel
theorem dX4_due_38 : decode cX4_due 38 = .ok (.iconst (-1), 1) := by decide +kernel
theorem dX4_due_39 : decode cX4_due 39 = .ok (.if_icmp .ne 7, 3) := by decide +kernel
theorem dX4_due_42 : decode cX4_due 42 = .ok (.iconst 0, 1) := by decide +kernel
theorem dX4_due_43 : decode cX4_due 43 = .ok (.goto 10, 3) := by decide +kernel
theorem dX4_due_46 : decode cX4_due 46 = .ok (.aload_n 3, 1) := by decide +kernel
theorem dX4_due_47 : decode cX4_due 47 = .ok (.getfield 145, 3) := by decide +kernel
theorem dX4_due_50 : decode cX4_due 50 = .ok (.invokestatic 289, 3) := by decide +kernel
theorem dX4_due_53 : decode cX4_due 53 = .ok (.ireturn, 1) := by decide +kernel
theorem dX4_owes_0 : decode cX4_owes 0 = .ok (.aload_n 0, 1) := by decide +kernel
theorem dX4_owes_1 : decode cX4_owes 1 = .ok (.iload_n 1, 1) := by decide +kernel
theorem dX4_owes_2 : decode cX4_owes 2 = .ok (.invokevirtual 56, 3) := by decide +kernel
theorem dX4_owes_5 : decode cX4_owes 5 = .ok (.aload_n 0, 1) := by decide +kernel
theorem dX4_owes_6 : decode cX4_owes 6 = .ok (.invokevirtual 292, 3) := by decide +kernel
theorem dX4_owes_9 : decode cX4_owes 9 = .ok (.aload_n 0, 1) := by decide +kernel
theorem dX4_owes_10 : decode cX4_owes 10 = .ok (.getfield 31, 3) := by decide +kernel
theorem dX4_owes_13 : decode cX4_owes 13 = .ok (.iload_n 1, 1) := by decide +kernel
theorem dX4_owes_14 : decode cX4_owes 14 = .ok (.invokestatic 295, 3) := by decide +kernel
theorem dX4_owes_17 : decode cX4_owes 17 = .ok (.ireturn, 1) := by decide +kernel
theorem dX4_owesByDays_0 : decode cX4_owesByDays 0 = .ok (.aload_n 0, 1) := by decide +kernel
theorem dX4_owesByDays_1 : decode cX4_owesByDays 1 = .ok (.iload_n 1, 1) := by decide +kernel
theorem dX4_owesByDays_2 : decode cX4_owesByDays 2 = .ok (.invokevirtual 56, 3) := by decide +kernel
theorem dX4_owesByDays_5 : decode cX4_owesByDays 5 = .ok (.aload_n 0, 1) := by decide +kernel
theorem dX4_owesByDays_6 : decode cX4_owesByDays 6 = .ok (.invokevirtual 299, 3) := by decide +kernel
theorem dX4_owesByDays_9 : decode cX4_owesByDays 9 = .ok (.aload_n 0, 1) := by decide +kernel
theorem dX4_owesByDays_10 : decode cX4_owesByDays 10 = .ok (.getfield 34, 3) := by decide +kernel
theorem dX4_owesByDays_13 : decode cX4_owesByDays 13 = .ok (.iload_n 1, 1) := by decide +kernel
theorem dX4_owesByDays_14 : decode cX4_owesByDays 14 = .ok (.invokestatic 295, 3) := by decide +kernel
theorem dX4_owesByDays_17 : decode cX4_owesByDays 17 = .ok (.ireturn, 1) := by decide +kernel
theorem dX4_pay_0 : decode cX4_pay 0 = .ok (.aload_n 0, 1) := by decide +kernel
theorem dX4_pay_1 : decode cX4_pay 1 = .ok (.iload_n 1, 1) := by decide +kernel
theorem dX4_pay_2 : decode cX4_pay 2 = .ok (.invokevirtual 56, 3) := by decide +kernel
theorem dX4_pay_5 : decode cX4_pay 5 = .ok (.iload_n 2, 1) := by decide +kernel
theorem dX4_pay_6 : decode cX4_pay 6 = .ok (.iconst 1, 1) := by decide +kernel
theorem dX4_pay_7 : decode cX4_pay 7 = .ok (.if_icmp .lt 10, 3) := by decide +kernel
theorem dX4_pay_10 : decode cX4_pay 10 = .ok (.iload_n 2, 1) := by decide +kernel
theorem dX4_pay_11 : decode cX4_pay 11 = .ok (.sipush 9999, 3) := by decide +kernel
theorem dX4_pay_14 : decode cX4_pay 14 = .ok (.if_icmp .le 13, 3) := by decide +kernel
theorem dX4_pay_17 : decode cX4_pay 17 = .ok (.new 51, 3) := by decide +kernel
theorem dX4_pay_20 : decode cX4_pay 20 = .ok (.dup, 1) := by decide +kernel
theorem dX4_pay_21 : decode cX4_pay 21 = .ok (.ldc 223, 2) := by decide +kernel
theorem dX4_pay_23 : decode cX4_pay 23 = .ok (.invokespecial 55, 3) := by decide +kernel
theorem dX4_pay_26 : decode cX4_pay 26 = .ok (.athrow, 1) := by decide +kernel
theorem dX4_pay_27 : decode cX4_pay 27 = .ok (.aload_n 0, 1) := by decide +kernel
theorem dX4_pay_28 : decode cX4_pay 28 = .ok (.getfield 27, 3) := by decide +kernel
theorem dX4_pay_31 : decode cX4_pay 31 = .ok (.iload_n 1, 1) := by decide +kernel
theorem dX4_pay_32 : decode cX4_pay 32 = .ok (.iload_n 2, 1) := by decide +kernel
theorem dX4_pay_33 : decode cX4_pay 33 = .ok (.invokestatic 211, 3) := by decide +kernel
theorem dX4_pay_36 : decode cX4_pay 36 = .ok (.aload_n 0, 1) := by decide +kernel
theorem dX4_pay_37 : decode cX4_pay 37 = .ok (.dup, 1) := by decide +kernel
theorem dX4_pay_38 : decode cX4_pay 38 = .ok (.getfield 302, 3) := by decide +kernel
theorem dX4_pay_41 : decode cX4_pay 41 = .ok (.iload_n 2, 1) := by decide +kernel
theorem dX4_pay_42 : decode cX4_pay 42 = .ok (.i2l, 1) := by decide +kernel
theorem dX4_pay_43 : decode cX4_pay 43 = .ok (.ladd, 1) := by decide +kernel
theorem dX4_pay_44 : decode cX4_pay 44 = .ok (.putfield 302, 3) := by decide +kernel
theorem dX4_pay_47 : decode cX4_pay 47 = .ok (.aload_n 0, 1) := by decide +kernel
theorem dX4_pay_48 : decode cX4_pay 48 = .ok (.invokevirtual 292, 3) := by decide +kernel
theorem dX4_pay_51 : decode cX4_pay 51 = .ok (.aload_n 0, 1) := by decide +kernel
theorem dX4_pay_52 : decode cX4_pay 52 = .ok (.getfield 31, 3) := by decide +kernel
theorem dX4_pay_55 : decode cX4_pay 55 = .ok (.iload_n 1, 1) := by decide +kernel
theorem dX4_pay_56 : decode cX4_pay 56 = .ok (.invokestatic 295, 3) := by decide +kernel
theorem dX4_pay_59 : decode cX4_pay 59 = .ok (.ireturn, 1) := by decide +kernel
theorem dX4_mostOwing_0 : decode cX4_mostOwing 0 = .ok (.aload_n 0, 1) := by decide +kernel
theorem dX4_mostOwing_1 : decode cX4_mostOwing 1 = .ok (.invokevirtual 292, 3) := by decide +kernel
theorem dX4_mostOwing_4 : decode cX4_mostOwing 4 = .ok (.iconst (-1), 1) := by decide +kernel
theorem dX4_mostOwing_5 : decode cX4_mostOwing 5 = .ok (.istore_n 1, 1) := by decide +kernel
theorem dX4_mostOwing_6 : decode cX4_mostOwing 6 = .ok (.iconst 0, 1) := by decide +kernel
theorem dX4_mostOwing_7 : decode cX4_mostOwing 7 = .ok (.istore_n 2, 1) := by decide +kernel
theorem dX4_mostOwing_8 : decode cX4_mostOwing 8 = .ok (.iconst 0, 1) := by decide +kernel
theorem dX4_mostOwing_9 : decode cX4_mostOwing 9 = .ok (.istore_n 3, 1) := by decide +kernel
theorem dX4_mostOwing_10 : decode cX4_mostOwing 10 = .ok (.iload_n 3, 1) := by decide +kernel
theorem dX4_mostOwing_11 : decode cX4_mostOwing 11 = .ok (.aload_n 0, 1) := by decide +kernel
theorem dX4_mostOwing_12 : decode cX4_mostOwing 12 = .ok (.getfield 37, 3) := by decide +kernel
theorem dX4_mostOwing_15 : decode cX4_mostOwing 15 = .ok (.if_icmp .ge 32, 3) := by decide +kernel
theorem dX4_mostOwing_18 : decode cX4_mostOwing 18 = .ok (.aload_n 0, 1) := by decide +kernel
theorem dX4_mostOwing_19 : decode cX4_mostOwing 19 = .ok (.getfield 31, 3) := by decide +kernel
theorem dX4_mostOwing_22 : decode cX4_mostOwing 22 = .ok (.iload_n 3, 1) := by decide +kernel
theorem dX4_mostOwing_23 : decode cX4_mostOwing 23 = .ok (.invokestatic 295, 3) := by decide +kernel
theorem dX4_mostOwing_26 : decode cX4_mostOwing 26 = .ok (.iload_n 2, 1) := by decide +kernel
theorem dX4_mostOwing_27 : decode cX4_mostOwing 27 = .ok (.if_icmp .le 14, 3) := by decide +kernel
theorem dX4_mostOwing_30 : decode cX4_mostOwing 30 = .ok (.iload_n 3, 1) := by decide +kernel
theorem dX4_mostOwing_31 : decode cX4_mostOwing 31 = .ok (.istore_n 1, 1) := by decide +kernel
theorem dX4_mostOwing_32 : decode cX4_mostOwing 32 = .ok (.aload_n 0, 1) := by decide +kernel
theorem dX4_mostOwing_33 : decode cX4_mostOwing 33 = .ok (.getfield 31, 3) := by decide +kernel
theorem dX4_mostOwing_36 : decode cX4_mostOwing 36 = .ok (.iload_n 3, 1) := by decide +kernel
theorem dX4_mostOwing_37 : decode cX4_mostOwing 37 = .ok (.invokestatic 295, 3) := by decide +kernel
theorem dX4_mostOwing_40 : decode cX4_mostOwing 40 = .ok (.istore_n 2, 1) := by decide +kernel
theorem dX4_mostOwing_41 : decode cX4_mostOwing 41 = .ok (.iinc 3 1, 3) := by decide +kernel
theorem dX4_mostOwing_44 : decode cX4_mostOwing 44 = .ok (.goto (-34), 3) := by decide +kernel
theorem dX4_mostOwing_47 : decode cX4_mostOwing 47 = .ok (.iload_n 1, 1) := by decide +kernel
theorem dX4_mostOwing_48 : decode cX4_mostOwing 48 = .ok (.invokestatic 185, 3) := by decide +kernel
theorem dX4_mostOwing_51 : decode cX4_mostOwing 51 = .ok (.ireturn, 1) := by decide +kernel
theorem dX4_collected_0 : decode cX4_collected 0 = .ok (.aload_n 0, 1) := by decide +kernel
theorem dX4_collected_1 : decode cX4_collected 1 = .ok (.getfield 302, 3) := by decide +kernel
theorem dX4_collected_4 : decode cX4_collected 4 = .ok (.lreturn, 1) := by decide +kernel
theorem dX4_roadShare_0 : decode cX4_roadShare 0 = .ok (.aload_n 0, 1) := by decide +kernel
theorem dX4_roadShare_1 : decode cX4_roadShare 1 = .ok (.invokevirtual 306, 3) := by decide +kernel
theorem dX4_roadShare_4 : decode cX4_roadShare 4 = .ok (.iconst 0, 1) := by decide +kernel
theorem dX4_roadShare_5 : decode cX4_roadShare 5 = .ok (.istore_n 1, 1) := by decide +kernel
theorem dX4_roadShare_6 : decode cX4_roadShare 6 = .ok (.aload_n 0, 1) := by decide +kernel
theorem dX4_roadShare_7 : decode cX4_roadShare 7 = .ok (.getfield 11, 3) := by decide +kernel
theorem dX4_roadShare_10 : decode cX4_roadShare 10 = .ok (.astore_n 2, 1) := by decide +kernel
theorem dX4_roadShare_11 : decode cX4_roadShare 11 = .ok (.aload_n 2, 1) := by decide +kernel
theorem dX4_roadShare_12 : decode cX4_roadShare 12 = .ok (.arraylength, 1) := by decide +kernel
theorem dX4_roadShare_13 : decode cX4_roadShare 13 = .ok (.istore_n 3, 1) := by decide +kernel
theorem dX4_roadShare_14 : decode cX4_roadShare 14 = .ok (.iconst 0, 1) := by decide +kernel
theorem dX4_roadShare_15 : decode cX4_roadShare 15 = .ok (.istore 4, 2) := by decide +kernel
theorem dX4_roadShare_17 : decode cX4_roadShare 17 = .ok (.iload 4, 2) := by decide +kernel
theorem dX4_roadShare_19 : decode cX4_roadShare 19 = .ok (.iload_n 3, 1) := by decide +kernel
theorem dX4_roadShare_20 : decode cX4_roadShare 20 = .ok (.if_icmp .ge 31, 3) := by decide +kernel
theorem dX4_roadShare_23 : decode cX4_roadShare 23 = .ok (.aload_n 2, 1) := by decide +kernel
theorem dX4_roadShare_24 : decode cX4_roadShare 24 = .ok (.iload 4, 2) := by decide +kernel
theorem dX4_roadShare_26 : decode cX4_roadShare 26 = .ok (.aaload, 1) := by decide +kernel
theorem dX4_roadShare_27 : decode cX4_roadShare 27 = .ok (.astore 5, 2) := by decide +kernel
theorem dX4_roadShare_29 : decode cX4_roadShare 29 = .ok (.aload 5, 2) := by decide +kernel
theorem dX4_roadShare_31 : decode cX4_roadShare 31 = .ok (.ifnull 14, 3) := by decide +kernel
theorem dX4_roadShare_34 : decode cX4_roadShare 34 = .ok (.aload 5, 2) := by decide +kernel
theorem dX4_roadShare_36 : decode cX4_roadShare 36 = .ok (.invokevirtual 115, 3) := by decide +kernel
theorem dX4_roadShare_39 : decode cX4_roadShare 39 = .ok (.ifCond .eq 6, 3) := by decide +kernel
theorem dX4_roadShare_42 : decode cX4_roadShare 42 = .ok (.iinc 1 1, 3) := by decide +kernel
theorem dX4_roadShare_45 : decode cX4_roadShare 45 = .ok (.iinc 4 1, 3) := by decide +kernel
theorem dX4_roadShare_48 : decode cX4_roadShare 48 = .ok (.goto (-31), 3) := by decide +kernel
theorem dX4_roadShare_51 : decode cX4_roadShare 51 = .ok (.iload_n 1, 1) := by decide +kernel
theorem dX4_roadShare_52 : decode cX4_roadShare 52 = .ok (.i2f, 1) := by decide +kernel
theorem dX4_roadShare_53 : decode cX4_roadShare 53 = .ok (.aload_n 0, 1) := by decide +kernel
theorem dX4_roadShare_54 : decode cX4_roadShare 54 = .ok (.getfield 149, 3) := by decide +kernel
theorem dX4_roadShare_57 : decode cX4_roadShare 57 = .ok (.i2f, 1) := by decide +kernel
theorem dX4_roadShare_58 : decode cX4_roadShare 58 = .ok (.fdiv, 1) := by decide +kernel
theorem dX4_roadShare_59 : decode cX4_roadShare 59 = .ok (.freturn, 1) := by decide +kernel
theorem dX4_meanTransfers_0 : decode cX4_meanTransfers 0 = .ok (.aload_n 0, 1) := by decide +kernel
theorem dX4_meanTransfers_1 : decode cX4_meanTransfers 1 = .ok (.invokevirtual 306, 3) := by decide +kernel
theorem dX4_meanTransfers_4 : decode cX4_meanTransfers 4 = .ok (.iconst 0, 1) := by decide +kernel
theorem dX4_meanTransfers_5 : decode cX4_meanTransfers 5 = .ok (.istore_n 1, 1) := by decide +kernel
theorem dX4_meanTransfers_6 : decode cX4_meanTransfers 6 = .ok (.aload_n 0, 1) := by decide +kernel
theorem dX4_meanTransfers_7 : decode cX4_meanTransfers 7 = .ok (.getfield 11, 3) := by decide +kernel
theorem dX4_meanTransfers_10 : decode cX4_meanTransfers 10 = .ok (.astore_n 2, 1) := by decide +kernel
theorem dX4_meanTransfers_11 : decode cX4_meanTransfers 11 = .ok (.aload_n 2, 1) := by decide +kernel
theorem dX4_meanTransfers_12 : decode cX4_meanTransfers 12 = .ok (.arraylength, 1) := by decide +kernel
theorem dX4_meanTransfers_13 : decode cX4_meanTransfers 13 = .ok (.istore_n 3, 1) := by decide +kernel
theorem dX4_meanTransfers_14 : decode cX4_meanTransfers 14 = .ok (.iconst 0, 1) := by decide +kernel
theorem dX4_meanTransfers_15 : decode cX4_meanTransfers 15 = .ok (.istore 4, 2) := by decide +kernel
theorem dX4_meanTransfers_17 : decode cX4_meanTransfers 17 = .ok (.iload 4, 2) := by decide +kernel
theorem dX4_meanTransfers_19 : decode cX4_meanTransfers 19 = .ok (.iload_n 3, 1) := by decide +kernel
theorem dX4_meanTransfers_20 : decode cX4_meanTransfers 20 = .ok (.if_icmp .ge 31, 3) := by decide +kernel
theorem dX4_meanTransfers_23 : decode cX4_meanTransfers 23 = .ok (.aload_n 2, 1) := by decide +kernel
theorem dX4_meanTransfers_24 : decode cX4_meanTransfers 24 = .ok (.iload 4, 2) := by decide +kernel
theorem dX4_meanTransfers_26 : decode cX4_meanTransfers 26 = .ok (.aaload, 1) := by decide +kernel
theorem dX4_meanTransfers_27 : decode cX4_meanTransfers 27 = .ok (.astore 5, 2) := by decide +kernel
theorem dX4_meanTransfers_29 : decode cX4_meanTransfers 29 = .ok (.aload 5, 2) := by decide +kernel
theorem dX4_meanTransfers_31 : decode cX4_meanTransfers 31 = .ok (.ifnull 14, 3) := by decide +kernel
theorem dX4_meanTransfers_34 : decode cX4_meanTransfers 34 = .ok (.iload_n 1, 1) := by decide +kernel
theorem dX4_meanTransfers_35 : decode cX4_meanTransfers 35 = .ok (.aload 5, 2) := by decide +kernel
theorem dX4_meanTransfers_37 : decode cX4_meanTransfers 37 = .ok (.getfield 182, 3) := by decide +kernel
theorem dX4_meanTransfers_40 : decode cX4_meanTransfers 40 = .ok (.getfield 191, 3) := by decide +kernel
theorem dX4_meanTransfers_43 : decode cX4_meanTransfers 43 = .ok (.iadd, 1) := by decide +kernel
theorem dX4_meanTransfers_44 : decode cX4_meanTransfers 44 = .ok (.istore_n 1, 1) := by decide +kernel
theorem dX4_meanTransfers_45 : decode cX4_meanTransfers 45 = .ok (.iinc 4 1, 3) := by decide +kernel
theorem dX4_meanTransfers_48 : decode cX4_meanTransfers 48 = .ok (.goto (-31), 3) := by decide +kernel
theorem dX4_meanTransfers_51 : decode cX4_meanTransfers 51 = .ok (.iload_n 1, 1) := by decide +kernel
theorem dX4_meanTransfers_52 : decode cX4_meanTransfers 52 = .ok (.i2d, 1) := by decide +kernel
theorem dX4_meanTransfers_53 : decode cX4_meanTransfers 53 = .ok (.aload_n 0, 1) := by decide +kernel
theorem dX4_meanTransfers_54 : decode cX4_meanTransfers 54 = .ok (.getfield 149, 3) := by decide +kernel
theorem dX4_meanTransfers_57 : decode cX4_meanTransfers 57 = .ok (.i2d, 1) := by decide +kernel
theorem dX4_meanTransfers_58 : decode cX4_meanTransfers 58 = .ok (.ddiv, 1) := by decide +kernel
theorem dX4_meanTransfers_59 : decode cX4_meanTransfers 59 = .ok (.dreturn, 1) := by decide +kernel
theorem dX4_isSound_0 : decode cX4_isSound 0 = .ok (.aload_n 0, 1) := by decide +kernel
theorem dX4_isSound_1 : decode cX4_isSound 1 = .ok (.invokevirtual 309, 3) := by decide +kernel
theorem dX4_isSound_4 : decode cX4_isSound 4 = .ok (.ifCond .eq 14, 3) := by decide +kernel
theorem dX4_isSound_7 : decode cX4_isSound 7 = .ok (.aload_n 0, 1) := by decide +kernel
theorem dX4_isSound_8 : decode cX4_isSound 8 = .ok (.invokevirtual 312, 3) := by decide +kernel
theorem dX4_isSound_11 : decode cX4_isSound 11 = .ok (.ifCond .eq 7, 3) := by decide +kernel
theorem dX4_isSound_14 : decode cX4_isSound 14 = .ok (.iconst 1, 1) := by decide +kernel
theorem dX4_isSound_15 : decode cX4_isSound 15 = .ok (.goto 4, 3) := by decide +kernel
theorem dX4_isSound_18 : decode cX4_isSound 18 = .ok (.iconst 0, 1) := by decide +kernel
theorem dX4_isSound_19 : decode cX4_isSound 19 = .ok (.ireturn, 1) := by decide +kernel
theorem dX4_requireKeeper_0 : decode cX4_requireKeeper 0 = .ok (.iload_n 1, 1) := by decide +kernel
theorem dX4_requireKeeper_1 : decode cX4_requireKeeper 1 = .ok (.ifCond .lt 11, 3) := by decide +kernel
theorem dX4_requireKeeper_4 : decode cX4_requireKeeper 4 = .ok (.iload_n 1, 1) := by decide +kernel
theorem dX4_requireKeeper_5 : decode cX4_requireKeeper 5 = .ok (.aload_n 0, 1) := by decide +kernel
theorem dX4_requireKeeper_6 : decode cX4_requireKeeper 6 = .ok (.getfield 37, 3) := by decide +kernel
theorem dX4_requireKeeper_9 : decode cX4_requireKeeper 9 = .ok (.if_icmp .lt 14, 3) := by decide +kernel
theorem dX4_requireKeeper_12 : decode cX4_requireKeeper 12 = .ok (.new 194, 3) := by decide +kernel
theorem dX4_requireKeeper_15 : decode cX4_requireKeeper 15 = .ok (.dup, 1) := by decide +kernel
theorem dX4_requireKeeper_16 : decode cX4_requireKeeper 16 = .ok (.ldc_w 315, 3) := by decide +kernel
theorem dX4_requireKeeper_19 : decode cX4_requireKeeper 19 = .ok (.invokespecial 198, 3) := by decide +kernel
theorem dX4_requireKeeper_22 : decode cX4_requireKeeper 22 = .ok (.athrow, 1) := by decide +kernel
theorem dX4_requireKeeper_23 : decode cX4_requireKeeper 23 = .ok (.return_, 1) := by decide +kernel
theorem dX4_vehicleAt_0 : decode cX4_vehicleAt 0 = .ok (.iload_n 1, 1) := by decide +kernel
theorem dX4_vehicleAt_1 : decode cX4_vehicleAt 1 = .ok (.ifCond .lt 12, 3) := by decide +kernel
theorem dX4_vehicleAt_4 : decode cX4_vehicleAt 4 = .ok (.iload_n 1, 1) := by decide +kernel
theorem dX4_vehicleAt_5 : decode cX4_vehicleAt 5 = .ok (.aload_n 0, 1) := by decide +kernel
theorem dX4_vehicleAt_6 : decode cX4_vehicleAt 6 = .ok (.getfield 11, 3) := by decide +kernel
theorem dX4_vehicleAt_9 : decode cX4_vehicleAt 9 = .ok (.arraylength, 1) := by decide +kernel
theorem dX4_vehicleAt_10 : decode cX4_vehicleAt 10 = .ok (.if_icmp .lt 7, 3) := by decide +kernel
theorem dX4_vehicleAt_13 : decode cX4_vehicleAt 13 = .ok (.aconst_null, 1) := by decide +kernel
theorem dX4_vehicleAt_14 : decode cX4_vehicleAt 14 = .ok (.goto 9, 3) := by decide +kernel
theorem dX4_vehicleAt_17 : decode cX4_vehicleAt 17 = .ok (.aload_n 0, 1) := by decide +kernel
theorem dX4_vehicleAt_18 : decode cX4_vehicleAt 18 = .ok (.getfield 11, 3) := by decide +kernel
theorem dX4_vehicleAt_21 : decode cX4_vehicleAt 21 = .ok (.iload_n 1, 1) := by decide +kernel
theorem dX4_vehicleAt_22 : decode cX4_vehicleAt 22 = .ok (.aaload, 1) := by decide +kernel
theorem dX4_vehicleAt_23 : decode cX4_vehicleAt 23 = .ok (.astore_n 2, 1) := by decide +kernel
theorem dX4_vehicleAt_24 : decode cX4_vehicleAt 24 = .ok (.aload_n 2, 1) := by decide +kernel
theorem dX4_vehicleAt_25 : decode cX4_vehicleAt 25 = .ok (.ifnonnull 14, 3) := by decide +kernel
theorem dX4_vehicleAt_28 : decode cX4_vehicleAt 28 = .ok (.new 194, 3) := by decide +kernel
theorem dX4_vehicleAt_31 : decode cX4_vehicleAt 31 = .ok (.dup, 1) := by decide +kernel
theorem dX4_vehicleAt_32 : decode cX4_vehicleAt 32 = .ok (.ldc_w 317, 3) := by decide +kernel
theorem dX4_vehicleAt_35 : decode cX4_vehicleAt 35 = .ok (.invokespecial 198, 3) := by decide +kernel
theorem dX4_vehicleAt_38 : decode cX4_vehicleAt 38 = .ok (.athrow, 1) := by decide +kernel
theorem dX4_vehicleAt_39 : decode cX4_vehicleAt 39 = .ok (.aload_n 2, 1) := by decide +kernel
theorem dX4_vehicleAt_40 : decode cX4_vehicleAt 40 = .ok (.areturn, 1) := by decide +kernel
theorem dX4_plateAt_0 : decode cX4_plateAt 0 = .ok (.aload_n 0, 1) := by decide +kernel
theorem dX4_plateAt_1 : decode cX4_plateAt 1 = .ok (.iload_n 1, 1) := by decide +kernel
theorem dX4_plateAt_2 : decode cX4_plateAt 2 = .ok (.invokevirtual 319, 3) := by decide +kernel
theorem dX4_plateAt_5 : decode cX4_plateAt 5 = .ok (.astore_n 2, 1) := by decide +kernel
theorem dX4_plateAt_6 : decode cX4_plateAt 6 = .ok (.aload_n 2, 1) := by decide +kernel
theorem dX4_plateAt_7 : decode cX4_plateAt 7 = .ok (.ifnonnull 14, 3) := by decide +kernel
theorem dX4_plateAt_10 : decode cX4_plateAt 10 = .ok (.new 231, 3) := by decide +kernel
theorem dX4_plateAt_13 : decode cX4_plateAt 13 = .ok (.dup, 1) := by decide +kernel
theorem dX4_plateAt_14 : decode cX4_plateAt 14 = .ok (.ldc_w 322, 3) := by decide +kernel
theorem dX4_plateAt_17 : decode cX4_plateAt 17 = .ok (.invokespecial 235, 3) := by decide +kernel
theorem dX4_plateAt_20 : decode cX4_plateAt 20 = .ok (.athrow, 1) := by decide +kernel
theorem dX4_plateAt_21 : decode cX4_plateAt 21 = .ok (.aload_n 2, 1) := by decide +kernel
theorem dX4_plateAt_22 : decode cX4_plateAt 22 = .ok (.areturn, 1) := by decide +kernel
theorem dX4_noticeAt_0 : decode cX4_noticeAt 0 = .ok (.iload_n 1, 1) := by decide +kernel
theorem dX4_noticeAt_1 : decode cX4_noticeAt 1 = .ok (.ifCond .lt 12, 3) := by decide +kernel
theorem dX4_noticeAt_4 : decode cX4_noticeAt 4 = .ok (.iload_n 1, 1) := by decide +kernel
theorem dX4_noticeAt_5 : decode cX4_noticeAt 5 = .ok (.aload_n 0, 1) := by decide +kernel
theorem dX4_noticeAt_6 : decode cX4_noticeAt 6 = .ok (.getfield 23, 3) := by decide +kernel
theorem dX4_noticeAt_9 : decode cX4_noticeAt 9 = .ok (.arraylength, 1) := by decide +kernel
theorem dX4_noticeAt_10 : decode cX4_noticeAt 10 = .ok (.if_icmp .lt 7, 3) := by decide +kernel
theorem dX4_noticeAt_13 : decode cX4_noticeAt 13 = .ok (.aconst_null, 1) := by decide +kernel
theorem dX4_noticeAt_14 : decode cX4_noticeAt 14 = .ok (.goto 9, 3) := by decide +kernel
theorem dX4_noticeAt_17 : decode cX4_noticeAt 17 = .ok (.aload_n 0, 1) := by decide +kernel
theorem dX4_noticeAt_18 : decode cX4_noticeAt 18 = .ok (.getfield 23, 3) := by decide +kernel
theorem dX4_noticeAt_21 : decode cX4_noticeAt 21 = .ok (.iload_n 1, 1) := by decide +kernel
theorem dX4_noticeAt_22 : decode cX4_noticeAt 22 = .ok (.aaload, 1) := by decide +kernel
theorem dX4_noticeAt_23 : decode cX4_noticeAt 23 = .ok (.astore_n 2, 1) := by decide +kernel
theorem dX4_noticeAt_24 : decode cX4_noticeAt 24 = .ok (.aload_n 2, 1) := by decide +kernel
theorem dX4_noticeAt_25 : decode cX4_noticeAt 25 = .ok (.ifnonnull 14, 3) := by decide +kernel
theorem dX4_noticeAt_28 : decode cX4_noticeAt 28 = .ok (.new 231, 3) := by decide +kernel
theorem dX4_noticeAt_31 : decode cX4_noticeAt 31 = .ok (.dup, 1) := by decide +kernel
theorem dX4_noticeAt_32 : decode cX4_noticeAt 32 = .ok (.ldc_w 324, 3) := by decide +kernel
theorem dX4_noticeAt_35 : decode cX4_noticeAt 35 = .ok (.invokespecial 235, 3) := by decide +kernel
theorem dX4_noticeAt_38 : decode cX4_noticeAt 38 = .ok (.athrow, 1) := by decide +kernel
theorem dX4_noticeAt_39 : decode cX4_noticeAt 39 = .ok (.aload_n 2, 1) := by decide +kernel
theorem dX4_noticeAt_40 : decode cX4_noticeAt 40 = .ok (.areturn, 1) := by decide +kernel
theorem dX4_requireDay_0 : decode cX4_requireDay 0 = .ok (.iload_n 1, 1) := by decide +kernel
theorem dX4_requireDay_1 : decode cX4_requireDay 1 = .ok (.ifCond .lt 11, 3) := by decide +kernel
theorem dX4_requireDay_4 : decode cX4_requireDay 4 = .ok (.iload_n 1, 1) := by decide +kernel
theorem dX4_requireDay_5 : decode cX4_requireDay 5 = .ok (.aload_n 0, 1) := by decide +kernel
theorem dX4_requireDay_6 : decode cX4_requireDay 6 = .ok (.getfield 48, 3) := by decide +kernel
theorem dX4_requireDay_9 : decode cX4_requireDay 9 = .ok (.if_icmp .le 14, 3) := by decide +kernel
theorem dX4_requireDay_12 : decode cX4_requireDay 12 = .ok (.new 51, 3) := by decide +kernel
theorem dX4_requireDay_15 : decode cX4_requireDay 15 = .ok (.dup, 1) := by decide +kernel
theorem dX4_requireDay_16 : decode cX4_requireDay 16 = .ok (.ldc_w 326, 3) := by decide +kernel
theorem dX4_requireDay_19 : decode cX4_requireDay 19 = .ok (.invokespecial 55, 3) := by decide +kernel
theorem dX4_requireDay_22 : decode cX4_requireDay 22 = .ok (.athrow, 1) := by decide +kernel
theorem dX4_requireDay_23 : decode cX4_requireDay 23 = .ok (.return_, 1) := by decide +kernel
theorem dX4_requireKind_0 : decode cX4_requireKind 0 = .ok (.iload_n 0, 1) := by decide +kernel
theorem dX4_requireKind_1 : decode cX4_requireKind 1 = .ok (.bipush 99, 2) := by decide +kernel
theorem dX4_requireKind_3 : decode cX4_requireKind 3 = .ok (.if_icmp .eq 32, 3) := by decide +kernel
theorem dX4_requireKind_6 : decode cX4_requireKind 6 = .ok (.iload_n 0, 1) := by decide +kernel
theorem dX4_requireKind_7 : decode cX4_requireKind 7 = .ok (.bipush 109, 2) := by decide +kernel
theorem dX4_requireKind_9 : decode cX4_requireKind 9 = .ok (.if_icmp .eq 26, 3) := by decide +kernel
theorem dX4_requireKind_12 : decode cX4_requireKind 12 = .ok (.iload_n 0, 1) := by decide +kernel
theorem dX4_requireKind_13 : decode cX4_requireKind 13 = .ok (.bipush 108, 2) := by decide +kernel
theorem dX4_requireKind_15 : decode cX4_requireKind 15 = .ok (.if_icmp .eq 20, 3) := by decide +kernel
theorem dX4_requireKind_18 : decode cX4_requireKind 18 = .ok (.iload_n 0, 1) := by decide +kernel
theorem dX4_requireKind_19 : decode cX4_requireKind 19 = .ok (.bipush 104, 2) := by decide +kernel
theorem dX4_requireKind_21 : decode cX4_requireKind 21 = .ok (.if_icmp .eq 14, 3) := by decide +kernel
theorem dX4_requireKind_24 : decode cX4_requireKind 24 = .ok (.new 51, 3) := by decide +kernel
theorem dX4_requireKind_27 : decode cX4_requireKind 27 = .ok (.dup, 1) := by decide +kernel
theorem dX4_requireKind_28 : decode cX4_requireKind 28 = .ok (.ldc_w 328, 3) := by decide +kernel
theorem dX4_requireKind_31 : decode cX4_requireKind 31 = .ok (.invokespecial 55, 3) := by decide +kernel
theorem dX4_requireKind_34 : decode cX4_requireKind 34 = .ok (.athrow, 1) := by decide +kernel
theorem dX4_requireKind_35 : decode cX4_requireKind 35 = .ok (.return_, 1) := by decide +kernel
theorem dX4_requireRoomForVehicle_0 : decode cX4_requireRoomForVehicle 0 = .ok (.aload_n 0, 1) := by decide +kernel
theorem dX4_requireRoomForVehicle_1 : decode cX4_requireRoomForVehicle 1 = .ok (.getfield 149, 3) := by decide +kernel
theorem dX4_requireRoomForVehicle_4 : decode cX4_requireRoomForVehicle 4 = .ok (.bipush 15, 2) := by decide +kernel
theorem dX4_requireRoomForVehicle_6 : decode cX4_requireRoomForVehicle 6 = .ok (.if_icmp .lt 14, 3) := by decide +kernel
theorem dX4_requireRoomForVehicle_9 : decode cX4_requireRoomForVehicle 9 = .ok (.new 41, 3) := by decide +kernel
theorem dX4_requireRoomForVehicle_12 : decode cX4_requireRoomForVehicle 12 = .ok (.dup, 1) := by decide +kernel
theorem dX4_requireRoomForVehicle_13 : decode cX4_requireRoomForVehicle 13 = .ok (.ldc_w 330, 3) := by decide +kernel
theorem dX4_requireRoomForVehicle_16 : decode cX4_requireRoomForVehicle 16 = .ok (.invokespecial 45, 3) := by decide +kernel
theorem dX4_requireRoomForVehicle_19 : decode cX4_requireRoomForVehicle 19 = .ok (.athrow, 1) := by decide +kernel
theorem dX4_requireRoomForVehicle_20 : decode cX4_requireRoomForVehicle 20 = .ok (.return_, 1) := by decide +kernel
theorem dX4_requireRoomForPlate_0 : decode cX4_requireRoomForPlate 0 = .ok (.aload_n 0, 1) := by decide +kernel
theorem dX4_requireRoomForPlate_1 : decode cX4_requireRoomForPlate 1 = .ok (.getfield 273, 3) := by decide +kernel
theorem dX4_requireRoomForPlate_4 : decode cX4_requireRoomForPlate 4 = .ok (.bipush 40, 2) := by decide +kernel
theorem dX4_requireRoomForPlate_6 : decode cX4_requireRoomForPlate 6 = .ok (.if_icmp .lt 14, 3) := by decide +kernel
theorem dX4_requireRoomForPlate_9 : decode cX4_requireRoomForPlate 9 = .ok (.new 41, 3) := by decide +kernel
theorem dX4_requireRoomForPlate_12 : decode cX4_requireRoomForPlate 12 = .ok (.dup, 1) := by decide +kernel
theorem dX4_requireRoomForPlate_13 : decode cX4_requireRoomForPlate 13 = .ok (.ldc_w 332, 3) := by decide +kernel
theorem dX4_requireRoomForPlate_16 : decode cX4_requireRoomForPlate 16 = .ok (.invokespecial 45, 3) := by decide +kernel
theorem dX4_requireRoomForPlate_19 : decode cX4_requireRoomForPlate 19 = .ok (.athrow, 1) := by decide +kernel
theorem dX4_requireRoomForPlate_20 : decode cX4_requireRoomForPlate 20 = .ok (.return_, 1) := by decide +kernel
theorem dX4_requireRoomForNotice_0 : decode cX4_requireRoomForNotice 0 = .ok (.aload_n 0, 1) := by decide +kernel
theorem dX4_requireRoomForNotice_1 : decode cX4_requireRoomForNotice 1 = .ok (.getfield 334, 3) := by decide +kernel
theorem dX4_requireRoomForNotice_4 : decode cX4_requireRoomForNotice 4 = .ok (.bipush 120, 2) := by decide +kernel
theorem dX4_requireRoomForNotice_6 : decode cX4_requireRoomForNotice 6 = .ok (.if_icmp .lt 14, 3) := by decide +kernel
theorem dX4_requireRoomForNotice_9 : decode cX4_requireRoomForNotice 9 = .ok (.new 41, 3) := by decide +kernel
theorem dX4_requireRoomForNotice_12 : decode cX4_requireRoomForNotice 12 = .ok (.dup, 1) := by decide +kernel
theorem dX4_requireRoomForNotice_13 : decode cX4_requireRoomForNotice 13 = .ok (.ldc_w 337, 3) := by decide +kernel
theorem dX4_requireRoomForNotice_16 : decode cX4_requireRoomForNotice 16 = .ok (.invokespecial 45, 3) := by decide +kernel
theorem dX4_requireRoomForNotice_19 : decode cX4_requireRoomForNotice 19 = .ok (.athrow, 1) := by decide +kernel
theorem dX4_requireRoomForNotice_20 : decode cX4_requireRoomForNotice 20 = .ok (.return_, 1) := by decide +kernel
theorem dX4_requireUnblocked_0 : decode cX4_requireUnblocked 0 = .ok (.aload_n 0, 1) := by decide +kernel
theorem dX4_requireUnblocked_1 : decode cX4_requireUnblocked 1 = .ok (.invokevirtual 228, 3) := by decide +kernel
theorem dX4_requireUnblocked_4 : decode cX4_requireUnblocked 4 = .ok (.ifCond .eq 14, 3) := by decide +kernel
theorem dX4_requireUnblocked_7 : decode cX4_requireUnblocked 7 = .ok (.new 41, 3) := by decide +kernel
theorem dX4_requireUnblocked_10 : decode cX4_requireUnblocked 10 = .ok (.dup, 1) := by decide +kernel
theorem dX4_requireUnblocked_11 : decode cX4_requireUnblocked 11 = .ok (.ldc_w 339, 3) := by decide +kernel
theorem dX4_requireUnblocked_14 : decode cX4_requireUnblocked 14 = .ok (.invokespecial 45, 3) := by decide +kernel
theorem dX4_requireUnblocked_17 : decode cX4_requireUnblocked 17 = .ok (.athrow, 1) := by decide +kernel
theorem dX4_requireUnblocked_18 : decode cX4_requireUnblocked 18 = .ok (.return_, 1) := by decide +kernel
theorem dX4_requirePlateToChange_0 : decode cX4_requirePlateToChange 0 = .ok (.aload_n 0, 1) := by decide +kernel
theorem dX4_requirePlateToChange_1 : decode cX4_requirePlateToChange 1 = .ok (.aload_n 1, 1) := by decide +kernel
theorem dX4_requirePlateToChange_2 : decode cX4_requirePlateToChange 2 = .ok (.invokevirtual 135, 3) := by decide +kernel
theorem dX4_requirePlateToChange_5 : decode cX4_requirePlateToChange 5 = .ok (.astore_n 2, 1) := by decide +kernel
theorem dX4_requirePlateToChange_6 : decode cX4_requirePlateToChange 6 = .ok (.aload_n 2, 1) := by decide +kernel
theorem dX4_requirePlateToChange_7 : decode cX4_requirePlateToChange 7 = .ok (.ifnull 10, 3) := by decide +kernel
theorem dX4_requirePlateToChange_10 : decode cX4_requirePlateToChange 10 = .ok (.aload_n 1, 1) := by decide +kernel
theorem dX4_requirePlateToChange_11 : decode cX4_requirePlateToChange 11 = .ok (.invokevirtual 228, 3) := by decide +kernel
theorem dX4_requirePlateToChange_14 : decode cX4_requirePlateToChange 14 = .ok (.ifCond .eq 14, 3) := by decide +kernel
theorem dX4_requirePlateToChange_17 : decode cX4_requirePlateToChange 17 = .ok (.new 41, 3) := by decide +kernel
theorem dX4_requirePlateToChange_20 : decode cX4_requirePlateToChange 20 = .ok (.dup, 1) := by decide +kernel
theorem dX4_requirePlateToChange_21 : decode cX4_requirePlateToChange 21 = .ok (.ldc_w 341, 3) := by decide +kernel
theorem dX4_requirePlateToChange_24 : decode cX4_requirePlateToChange 24 = .ok (.invokespecial 45, 3) := by decide +kernel
theorem dX4_requirePlateToChange_27 : decode cX4_requirePlateToChange 27 = .ok (.athrow, 1) := by decide +kernel
theorem dX4_requirePlateToChange_28 : decode cX4_requirePlateToChange 28 = .ok (.aload_n 2, 1) := by decide +kernel
theorem dX4_requirePlateToChange_29 : decode cX4_requirePlateToChange 29 = .ok (.areturn, 1) := by decide +kernel
theorem dX4_requireLien_0 : decode cX4_requireLien 0 = .ok (.aload_n 0, 1) := by decide +kernel
theorem dX4_requireLien_1 : decode cX4_requireLien 1 = .ok (.iload_n 1, 1) := by decide +kernel
theorem dX4_requireLien_2 : decode cX4_requireLien 2 = .ok (.invokevirtual 215, 3) := by decide +kernel
theorem dX4_requireLien_5 : decode cX4_requireLien 5 = .ok (.istore_n 2, 1) := by decide +kernel
theorem dX4_requireLien_6 : decode cX4_requireLien 6 = .ok (.iload_n 2, 1) := by decide +kernel
theorem dX4_requireLien_7 : decode cX4_requireLien 7 = .ok (.ifCond .ne 14, 3) := by decide +kernel
theorem dX4_requireLien_10 : decode cX4_requireLien 10 = .ok (.new 231, 3) := by decide +kernel
theorem dX4_requireLien_13 : decode cX4_requireLien 13 = .ok (.dup, 1) := by decide +kernel
theorem dX4_requireLien_14 : decode cX4_requireLien 14 = .ok (.ldc_w 343, 3) := by decide +kernel
theorem dX4_requireLien_17 : decode cX4_requireLien 17 = .ok (.invokespecial 235, 3) := by decide +kernel
theorem dX4_requireLien_20 : decode cX4_requireLien 20 = .ok (.athrow, 1) := by decide +kernel
theorem dX4_requireLien_21 : decode cX4_requireLien 21 = .ok (.iload_n 2, 1) := by decide +kernel
theorem dX4_requireLien_22 : decode cX4_requireLien 22 = .ok (.ireturn, 1) := by decide +kernel
theorem dX4_requireVehicles_0 : decode cX4_requireVehicles 0 = .ok (.aload_n 0, 1) := by decide +kernel
theorem dX4_requireVehicles_1 : decode cX4_requireVehicles 1 = .ok (.getfield 149, 3) := by decide +kernel
theorem dX4_requireVehicles_4 : decode cX4_requireVehicles 4 = .ok (.ifCond .ne 14, 3) := by decide +kernel
theorem dX4_requireVehicles_7 : decode cX4_requireVehicles 7 = .ok (.new 345, 3) := by decide +kernel
theorem dX4_requireVehicles_10 : decode cX4_requireVehicles 10 = .ok (.dup, 1) := by decide +kernel
theorem dX4_requireVehicles_11 : decode cX4_requireVehicles 11 = .ok (.ldc_w 347, 3) := by decide +kernel
theorem dX4_requireVehicles_14 : decode cX4_requireVehicles 14 = .ok (.invokespecial 349, 3) := by decide +kernel
theorem dX4_requireVehicles_17 : decode cX4_requireVehicles 17 = .ok (.athrow, 1) := by decide +kernel
theorem dX4_requireVehicles_18 : decode cX4_requireVehicles 18 = .ok (.return_, 1) := by decide +kernel
theorem dX4_found_0 : decode cX4_found 0 = .ok (.iload_n 0, 1) := by decide +kernel
theorem dX4_found_1 : decode cX4_found 1 = .ok (.iconst (-1), 1) := by decide +kernel
theorem dX4_found_2 : decode cX4_found 2 = .ok (.if_icmp .ne 14, 3) := by decide +kernel
theorem dX4_found_5 : decode cX4_found 5 = .ok (.new 231, 3) := by decide +kernel
theorem dX4_found_8 : decode cX4_found 8 = .ok (.dup, 1) := by decide +kernel
theorem dX4_found_9 : decode cX4_found 9 = .ok (.ldc_w 350, 3) := by decide +kernel
theorem dX4_found_12 : decode cX4_found 12 = .ok (.invokespecial 235, 3) := by decide +kernel
theorem dX4_found_15 : decode cX4_found 15 = .ok (.athrow, 1) := by decide +kernel
theorem dX4_found_16 : decode cX4_found 16 = .ok (.iload_n 0, 1) := by decide +kernel
theorem dX4_found_17 : decode cX4_found 17 = .ok (.ireturn, 1) := by decide +kernel
theorem dX4_placeFound_0 : decode cX4_placeFound 0 = .ok (.iload_n 0, 1) := by decide +kernel
theorem dX4_placeFound_1 : decode cX4_placeFound 1 = .ok (.iconst (-1), 1) := by decide +kernel
theorem dX4_placeFound_2 : decode cX4_placeFound 2 = .ok (.if_icmp .ne 14, 3) := by decide +kernel
theorem dX4_placeFound_5 : decode cX4_placeFound 5 = .ok (.new 41, 3) := by decide +kernel
theorem dX4_placeFound_8 : decode cX4_placeFound 8 = .ok (.dup, 1) := by decide +kernel
theorem dX4_placeFound_9 : decode cX4_placeFound 9 = .ok (.ldc_w 352, 3) := by decide +kernel
theorem dX4_placeFound_12 : decode cX4_placeFound 12 = .ok (.invokespecial 45, 3) := by decide +kernel
theorem dX4_placeFound_15 : decode cX4_placeFound 15 = .ok (.athrow, 1) := by decide +kernel
theorem dX4_placeFound_16 : decode cX4_placeFound 16 = .ok (.iload_n 0, 1) := by decide +kernel
theorem dX4_placeFound_17 : decode cX4_placeFound 17 = .ok (.ireturn, 1) := by decide +kernel
theorem dX4_enterVehicle_0 : decode cX4_enterVehicle 0 = .ok (.new 9, 3) := by decide +kernel
theorem dX4_enterVehicle_3 : decode cX4_enterVehicle 3 = .ok (.dup, 1) := by decide +kernel
theorem dX4_enterVehicle_4 : decode cX4_enterVehicle 4 = .ok (.aload_n 0, 1) := by decide +kernel
theorem dX4_enterVehicle_5 : decode cX4_enterVehicle 5 = .ok (.getfield 149, 3) := by decide +kernel
theorem dX4_enterVehicle_8 : decode cX4_enterVehicle 8 = .ok (.iload_n 2, 1) := by decide +kernel
theorem dX4_enterVehicle_9 : decode cX4_enterVehicle 9 = .ok (.invokespecial 354, 3) := by decide +kernel
theorem dX4_enterVehicle_12 : decode cX4_enterVehicle 12 = .ok (.astore_n 3, 1) := by decide +kernel
theorem dX4_enterVehicle_13 : decode cX4_enterVehicle 13 = .ok (.aload_n 3, 1) := by decide +kernel
theorem dX4_enterVehicle_14 : decode cX4_enterVehicle 14 = .ok (.getfield 182, 3) := by decide +kernel
theorem dX4_enterVehicle_17 : decode cX4_enterVehicle 17 = .ok (.aload_n 0, 1) := by decide +kernel
theorem dX4_enterVehicle_18 : decode cX4_enterVehicle 18 = .ok (.getfield 48, 3) := by decide +kernel
theorem dX4_enterVehicle_21 : decode cX4_enterVehicle 21 = .ok (.iload_n 1, 1) := by decide +kernel
theorem dX4_enterVehicle_22 : decode cX4_enterVehicle 22 = .ok (.invokevirtual 357, 3) := by decide +kernel
theorem dX4_enterVehicle_25 : decode cX4_enterVehicle 25 = .ok (.aload_n 0, 1) := by decide +kernel
theorem dX4_enterVehicle_26 : decode cX4_enterVehicle 26 = .ok (.getfield 149, 3) := by decide +kernel
theorem dX4_enterVehicle_29 : decode cX4_enterVehicle 29 = .ok (.aload_n 0, 1) := by decide +kernel
theorem dX4_enterVehicle_30 : decode cX4_enterVehicle 30 = .ok (.getfield 11, 3) := by decide +kernel
theorem dX4_enterVehicle_33 : decode cX4_enterVehicle 33 = .ok (.arraylength, 1) := by decide +kernel
theorem dX4_enterVehicle_34 : decode cX4_enterVehicle 34 = .ok (.if_icmp .ge 23, 3) := by decide +kernel
theorem dX4_enterVehicle_37 : decode cX4_enterVehicle 37 = .ok (.aload_n 0, 1) := by decide +kernel
theorem dX4_enterVehicle_38 : decode cX4_enterVehicle 38 = .ok (.getfield 11, 3) := by decide +kernel
theorem dX4_enterVehicle_41 : decode cX4_enterVehicle 41 = .ok (.aload_n 0, 1) := by decide +kernel
theorem dX4_enterVehicle_42 : decode cX4_enterVehicle 42 = .ok (.getfield 149, 3) := by decide +kernel
theorem dX4_enterVehicle_45 : decode cX4_enterVehicle 45 = .ok (.aload_n 3, 1) := by decide +kernel
theorem dX4_enterVehicle_46 : decode cX4_enterVehicle 46 = .ok (.aastore, 1) := by decide +kernel
theorem dX4_enterVehicle_47 : decode cX4_enterVehicle 47 = .ok (.aload_n 0, 1) := by decide +kernel
theorem dX4_enterVehicle_48 : decode cX4_enterVehicle 48 = .ok (.dup, 1) := by decide +kernel
theorem dX4_enterVehicle_49 : decode cX4_enterVehicle 49 = .ok (.getfield 149, 3) := by decide +kernel
theorem dX4_enterVehicle_52 : decode cX4_enterVehicle 52 = .ok (.iconst 1, 1) := by decide +kernel
theorem dX4_enterVehicle_53 : decode cX4_enterVehicle 53 = .ok (.iadd, 1) := by decide +kernel
theorem dX4_enterVehicle_54 : decode cX4_enterVehicle 54 = .ok (.putfield 149, 3) := by decide +kernel
theorem dX4_enterVehicle_57 : decode cX4_enterVehicle 57 = .ok (.aload_n 3, 1) := by decide +kernel
theorem dX4_enterVehicle_58 : decode cX4_enterVehicle 58 = .ok (.areturn, 1) := by decide +kernel
theorem dX4_bringOnRoad_0 : decode cX4_bringOnRoad 0 = .ok (.aload_n 0, 1) := by decide +kernel
theorem dX4_bringOnRoad_1 : decode cX4_bringOnRoad 1 = .ok (.aload_n 0, 1) := by decide +kernel
theorem dX4_bringOnRoad_2 : decode cX4_bringOnRoad 2 = .ok (.invokevirtual 239, 3) := by decide +kernel
theorem dX4_bringOnRoad_5 : decode cX4_bringOnRoad 5 = .ok (.aload_n 1, 1) := by decide +kernel
theorem dX4_bringOnRoad_6 : decode cX4_bringOnRoad 6 = .ok (.invokevirtual 243, 3) := by decide +kernel
theorem dX4_bringOnRoad_9 : decode cX4_bringOnRoad 9 = .ok (.aload_n 1, 1) := by decide +kernel
theorem dX4_bringOnRoad_10 : decode cX4_bringOnRoad 10 = .ok (.iconst 1, 1) := by decide +kernel
theorem dX4_bringOnRoad_11 : decode cX4_bringOnRoad 11 = .ok (.putfield 85, 3) := by decide +kernel
theorem dX4_bringOnRoad_14 : decode cX4_bringOnRoad 14 = .ok (.aload_n 1, 1) := by decide +kernel
theorem dX4_bringOnRoad_15 : decode cX4_bringOnRoad 15 = .ok (.getfield 118, 3) := by decide +kernel
theorem dX4_bringOnRoad_18 : decode cX4_bringOnRoad 18 = .ok (.aload_n 0, 1) := by decide +kernel
theorem dX4_bringOnRoad_19 : decode cX4_bringOnRoad 19 = .ok (.getfield 48, 3) := by decide +kernel
theorem dX4_bringOnRoad_22 : decode cX4_bringOnRoad 22 = .ok (.iconst 1, 1) := by decide +kernel
theorem dX4_bringOnRoad_23 : decode cX4_bringOnRoad 23 = .ok (.invokevirtual 121, 3) := by decide +kernel
theorem dX4_bringOnRoad_26 : decode cX4_bringOnRoad 26 = .ok (.return_, 1) := by decide +kernel
theorem dX4_issuePlate_0 : decode cX4_issuePlate 0 = .ok (.new 15, 3) := by decide +kernel
theorem dX4_issuePlate_3 : decode cX4_issuePlate 3 = .ok (.dup, 1) := by decide +kernel
theorem dX4_issuePlate_4 : decode cX4_issuePlate 4 = .ok (.aload_n 0, 1) := by decide +kernel
theorem dX4_issuePlate_5 : decode cX4_issuePlate 5 = .ok (.getfield 273, 3) := by decide +kernel
theorem dX4_issuePlate_8 : decode cX4_issuePlate 8 = .ok (.invokespecial 360, 3) := by decide +kernel
theorem dX4_issuePlate_11 : decode cX4_issuePlate 11 = .ok (.astore_n 1, 1) := by decide +kernel
theorem dX4_issuePlate_12 : decode cX4_issuePlate 12 = .ok (.aload_n 0, 1) := by decide +kernel
theorem dX4_issuePlate_13 : decode cX4_issuePlate 13 = .ok (.getfield 273, 3) := by decide +kernel
theorem dX4_issuePlate_16 : decode cX4_issuePlate 16 = .ok (.aload_n 0, 1) := by decide +kernel
theorem dX4_issuePlate_17 : decode cX4_issuePlate 17 = .ok (.getfield 17, 3) := by decide +kernel
theorem dX4_issuePlate_20 : decode cX4_issuePlate 20 = .ok (.arraylength, 1) := by decide +kernel
theorem dX4_issuePlate_21 : decode cX4_issuePlate 21 = .ok (.if_icmp .ge 23, 3) := by decide +kernel
theorem dX4_issuePlate_24 : decode cX4_issuePlate 24 = .ok (.aload_n 0, 1) := by decide +kernel
theorem dX4_issuePlate_25 : decode cX4_issuePlate 25 = .ok (.getfield 17, 3) := by decide +kernel
theorem dX4_issuePlate_28 : decode cX4_issuePlate 28 = .ok (.aload_n 0, 1) := by decide +kernel
theorem dX4_issuePlate_29 : decode cX4_issuePlate 29 = .ok (.getfield 273, 3) := by decide +kernel
theorem dX4_issuePlate_32 : decode cX4_issuePlate 32 = .ok (.aload_n 1, 1) := by decide +kernel
theorem dX4_issuePlate_33 : decode cX4_issuePlate 33 = .ok (.aastore, 1) := by decide +kernel
theorem dX4_issuePlate_34 : decode cX4_issuePlate 34 = .ok (.aload_n 0, 1) := by decide +kernel
theorem dX4_issuePlate_35 : decode cX4_issuePlate 35 = .ok (.dup, 1) := by decide +kernel
theorem dX4_issuePlate_36 : decode cX4_issuePlate 36 = .ok (.getfield 273, 3) := by decide +kernel
theorem dX4_issuePlate_39 : decode cX4_issuePlate 39 = .ok (.iconst 1, 1) := by decide +kernel
theorem dX4_issuePlate_40 : decode cX4_issuePlate 40 = .ok (.iadd, 1) := by decide +kernel
theorem dX4_issuePlate_41 : decode cX4_issuePlate 41 = .ok (.putfield 273, 3) := by decide +kernel
theorem dX4_issuePlate_44 : decode cX4_issuePlate 44 = .ok (.aload_n 1, 1) := by decide +kernel
theorem dX4_issuePlate_45 : decode cX4_issuePlate 45 = .ok (.areturn, 1) := by decide +kernel
theorem dX4_mount_0 : decode cX4_mount 0 = .ok (.aload_n 1, 1) := by decide +kernel
theorem dX4_mount_1 : decode cX4_mount 1 = .ok (.iconst (-1), 1) := by decide +kernel
theorem dX4_mount_2 : decode cX4_mount 2 = .ok (.putfield 255, 3) := by decide +kernel
theorem dX4_mount_5 : decode cX4_mount 5 = .ok (.aload_n 1, 1) := by decide +kernel
theorem dX4_mount_6 : decode cX4_mount 6 = .ok (.getfield 265, 3) := by decide +kernel
theorem dX4_mount_9 : decode cX4_mount 9 = .ok (.aload_n 0, 1) := by decide +kernel
theorem dX4_mount_10 : decode cX4_mount 10 = .ok (.getfield 48, 3) := by decide +kernel
theorem dX4_mount_13 : decode cX4_mount 13 = .ok (.aload_n 2, 1) := by decide +kernel
theorem dX4_mount_14 : decode cX4_mount 14 = .ok (.getfield 78, 3) := by decide +kernel
theorem dX4_mount_17 : decode cX4_mount 17 = .ok (.invokevirtual 121, 3) := by decide +kernel
theorem dX4_mount_20 : decode cX4_mount 20 = .ok (.aload_n 2, 1) := by decide +kernel
theorem dX4_mount_21 : decode cX4_mount 21 = .ok (.getfield 99, 3) := by decide +kernel
theorem dX4_mount_24 : decode cX4_mount 24 = .ok (.aload_n 0, 1) := by decide +kernel
theorem dX4_mount_25 : decode cX4_mount 25 = .ok (.getfield 48, 3) := by decide +kernel
theorem dX4_mount_28 : decode cX4_mount 28 = .ok (.aload_n 1, 1) := by decide +kernel
theorem dX4_mount_29 : decode cX4_mount 29 = .ok (.getfield 247, 3) := by decide +kernel
theorem dX4_mount_32 : decode cX4_mount 32 = .ok (.invokevirtual 121, 3) := by decide +kernel
theorem dX4_mount_35 : decode cX4_mount 35 = .ok (.return_, 1) := by decide +kernel
theorem dX4_plateOrNull_0 : decode cX4_plateOrNull 0 = .ok (.iload_n 1, 1) := by decide +kernel
theorem dX4_plateOrNull_1 : decode cX4_plateOrNull 1 = .ok (.ifCond .lt 12, 3) := by decide +kernel
theorem dX4_plateOrNull_4 : decode cX4_plateOrNull 4 = .ok (.iload_n 1, 1) := by decide +kernel
theorem dX4_plateOrNull_5 : decode cX4_plateOrNull 5 = .ok (.aload_n 0, 1) := by decide +kernel
theorem dX4_plateOrNull_6 : decode cX4_plateOrNull 6 = .ok (.getfield 17, 3) := by decide +kernel
theorem dX4_plateOrNull_9 : decode cX4_plateOrNull 9 = .ok (.arraylength, 1) := by decide +kernel
theorem dX4_plateOrNull_10 : decode cX4_plateOrNull 10 = .ok (.if_icmp .lt 7, 3) := by decide +kernel
theorem dX4_plateOrNull_13 : decode cX4_plateOrNull 13 = .ok (.aconst_null, 1) := by decide +kernel
theorem dX4_plateOrNull_14 : decode cX4_plateOrNull 14 = .ok (.goto 9, 3) := by decide +kernel
theorem dX4_plateOrNull_17 : decode cX4_plateOrNull 17 = .ok (.aload_n 0, 1) := by decide +kernel
theorem dX4_plateOrNull_18 : decode cX4_plateOrNull 18 = .ok (.getfield 17, 3) := by decide +kernel
theorem dX4_plateOrNull_21 : decode cX4_plateOrNull 21 = .ok (.iload_n 1, 1) := by decide +kernel
theorem dX4_plateOrNull_22 : decode cX4_plateOrNull 22 = .ok (.aaload, 1) := by decide +kernel
theorem dX4_plateOrNull_23 : decode cX4_plateOrNull 23 = .ok (.areturn, 1) := by decide +kernel
theorem dX4_plateOf_0 : decode cX4_plateOf 0 = .ok (.aload_n 0, 1) := by decide +kernel
theorem dX4_plateOf_1 : decode cX4_plateOf 1 = .ok (.aload_n 1, 1) := by decide +kernel
theorem dX4_plateOf_2 : decode cX4_plateOf 2 = .ok (.getfield 99, 3) := by decide +kernel
theorem dX4_plateOf_5 : decode cX4_plateOf 5 = .ok (.invokevirtual 103, 3) := by decide +kernel
theorem dX4_plateOf_8 : decode cX4_plateOf 8 = .ok (.invokevirtual 319, 3) := by decide +kernel
theorem dX4_plateOf_11 : decode cX4_plateOf 11 = .ok (.areturn, 1) := by decide +kernel
theorem dX4_unscrapped_0 : decode cX4_unscrapped 0 = .ok (.iconst 0, 1) := by decide +kernel
theorem dX4_unscrapped_1 : decode cX4_unscrapped 1 = .ok (.istore_n 1, 1) := by decide +kernel
theorem dX4_unscrapped_2 : decode cX4_unscrapped 2 = .ok (.aload_n 0, 1) := by decide +kernel
theorem dX4_unscrapped_3 : decode cX4_unscrapped 3 = .ok (.getfield 11, 3) := by decide +kernel
theorem dX4_unscrapped_6 : decode cX4_unscrapped 6 = .ok (.astore_n 2, 1) := by decide +kernel
theorem dX4_unscrapped_7 : decode cX4_unscrapped 7 = .ok (.aload_n 2, 1) := by decide +kernel
theorem dX4_unscrapped_8 : decode cX4_unscrapped 8 = .ok (.arraylength, 1) := by decide +kernel
theorem dX4_unscrapped_9 : decode cX4_unscrapped 9 = .ok (.istore_n 3, 1) := by decide +kernel
theorem dX4_unscrapped_10 : decode cX4_unscrapped 10 = .ok (.iconst 0, 1) := by decide +kernel
theorem dX4_unscrapped_11 : decode cX4_unscrapped 11 = .ok (.istore 4, 2) := by decide +kernel
theorem dX4_unscrapped_13 : decode cX4_unscrapped 13 = .ok (.iload 4, 2) := by decide +kernel
theorem dX4_unscrapped_15 : decode cX4_unscrapped 15 = .ok (.iload_n 3, 1) := by decide +kernel
theorem dX4_unscrapped_16 : decode cX4_unscrapped 16 = .ok (.if_icmp .ge 31, 3) := by decide +kernel
theorem dX4_unscrapped_19 : decode cX4_unscrapped 19 = .ok (.aload_n 2, 1) := by decide +kernel
theorem dX4_unscrapped_20 : decode cX4_unscrapped 20 = .ok (.iload 4, 2) := by decide +kernel
theorem dX4_unscrapped_22 : decode cX4_unscrapped 22 = .ok (.aaload, 1) := by decide +kernel
theorem dX4_unscrapped_23 : decode cX4_unscrapped 23 = .ok (.astore 5, 2) := by decide +kernel
theorem dX4_unscrapped_25 : decode cX4_unscrapped 25 = .ok (.aload 5, 2) := by decide +kernel
theorem dX4_unscrapped_27 : decode cX4_unscrapped 27 = .ok (.ifnull 14, 3) := by decide +kernel
theorem dX4_unscrapped_30 : decode cX4_unscrapped 30 = .ok (.aload 5, 2) := by decide +kernel
theorem dX4_unscrapped_32 : decode cX4_unscrapped 32 = .ok (.getfield 94, 3) := by decide +kernel
theorem dX4_unscrapped_35 : decode cX4_unscrapped 35 = .ok (.ifCond .ne 6, 3) := by decide +kernel
theorem dX4_unscrapped_38 : decode cX4_unscrapped 38 = .ok (.iinc 1 1, 3) := by decide +kernel
theorem dX4_unscrapped_41 : decode cX4_unscrapped 41 = .ok (.iinc 4 1, 3) := by decide +kernel
theorem dX4_unscrapped_44 : decode cX4_unscrapped 44 = .ok (.goto (-31), 3) := by decide +kernel
theorem dX4_unscrapped_47 : decode cX4_unscrapped 47 = .ok (.iload_n 1, 1) := by decide +kernel
theorem dX4_unscrapped_48 : decode cX4_unscrapped 48 = .ok (.ireturn, 1) := by decide +kernel
theorem dX4_placeByVehicles_0 : decode cX4_placeByVehicles 0 = .ok (.aload_n 0, 1) := by decide +kernel
theorem dX4_placeByVehicles_1 : decode cX4_placeByVehicles 1 = .ok (.getfield 11, 3) := by decide +kernel
theorem dX4_placeByVehicles_4 : decode cX4_placeByVehicles 4 = .ok (.astore_n 3, 1) := by decide +kernel
theorem dX4_placeByVehicles_5 : decode cX4_placeByVehicles 5 = .ok (.aload_n 3, 1) := by decide +kernel
theorem dX4_placeByVehicles_6 : decode cX4_placeByVehicles 6 = .ok (.arraylength, 1) := by decide +kernel
theorem dX4_placeByVehicles_7 : decode cX4_placeByVehicles 7 = .ok (.istore 4, 2) := by decide +kernel
theorem dX4_placeByVehicles_9 : decode cX4_placeByVehicles 9 = .ok (.iconst 0, 1) := by decide +kernel
theorem dX4_placeByVehicles_10 : decode cX4_placeByVehicles 10 = .ok (.istore 5, 2) := by decide +kernel
theorem dX4_placeByVehicles_12 : decode cX4_placeByVehicles 12 = .ok (.iload 5, 2) := by decide +kernel
theorem dX4_placeByVehicles_14 : decode cX4_placeByVehicles 14 = .ok (.iload 4, 2) := by decide +kernel
theorem dX4_placeByVehicles_16 : decode cX4_placeByVehicles 16 = .ok (.if_icmp .ge 39, 3) := by decide +kernel
theorem dX4_placeByVehicles_19 : decode cX4_placeByVehicles 19 = .ok (.aload_n 3, 1) := by decide +kernel
theorem dX4_placeByVehicles_20 : decode cX4_placeByVehicles 20 = .ok (.iload 5, 2) := by decide +kernel
theorem dX4_placeByVehicles_22 : decode cX4_placeByVehicles 22 = .ok (.aaload, 1) := by decide +kernel
theorem dX4_placeByVehicles_23 : decode cX4_placeByVehicles 23 = .ok (.astore 6, 2) := by decide +kernel
theorem dX4_placeByVehicles_25 : decode cX4_placeByVehicles 25 = .ok (.aload 6, 2) := by decide +kernel
theorem dX4_placeByVehicles_27 : decode cX4_placeByVehicles 27 = .ok (.ifnull 22, 3) := by decide +kernel
theorem dX4_placeByVehicles_30 : decode cX4_placeByVehicles 30 = .ok (.aload 6, 2) := by decide +kernel
theorem dX4_placeByVehicles_32 : decode cX4_placeByVehicles 32 = .ok (.getfield 99, 3) := by decide +kernel
theorem dX4_placeByVehicles_35 : decode cX4_placeByVehicles 35 = .ok (.iload_n 2, 1) := by decide +kernel
theorem dX4_placeByVehicles_36 : decode cX4_placeByVehicles 36 = .ok (.invokevirtual 128, 3) := by decide +kernel
theorem dX4_placeByVehicles_39 : decode cX4_placeByVehicles 39 = .ok (.iload_n 1, 1) := by decide +kernel
theorem dX4_placeByVehicles_40 : decode cX4_placeByVehicles 40 = .ok (.if_icmp .ne 9, 3) := by decide +kernel
theorem dX4_placeByVehicles_43 : decode cX4_placeByVehicles 43 = .ok (.aload 6, 2) := by decide +kernel
theorem dX4_placeByVehicles_45 : decode cX4_placeByVehicles 45 = .ok (.getfield 78, 3) := by decide +kernel
theorem dX4_placeByVehicles_48 : decode cX4_placeByVehicles 48 = .ok (.ireturn, 1) := by decide +kernel
theorem dX4_placeByVehicles_49 : decode cX4_placeByVehicles 49 = .ok (.iinc 5 1, 3) := by decide +kernel
theorem dX4_placeByVehicles_52 : decode cX4_placeByVehicles 52 = .ok (.goto (-40), 3) := by decide +kernel
theorem dX4_placeByVehicles_55 : decode cX4_placeByVehicles 55 = .ok (.iconst (-1), 1) := by decide +kernel
theorem dX4_placeByVehicles_56 : decode cX4_placeByVehicles 56 = .ok (.ireturn, 1) := by decide +kernel
theorem dX4_countVehiclesWith_0 : decode cX4_countVehiclesWith 0 = .ok (.iconst 0, 1) := by decide +kernel
theorem dX4_countVehiclesWith_1 : decode cX4_countVehiclesWith 1 = .ok (.istore_n 2, 1) := by decide +kernel
theorem dX4_countVehiclesWith_2 : decode cX4_countVehiclesWith 2 = .ok (.aload_n 0, 1) := by decide +kernel
theorem dX4_countVehiclesWith_3 : decode cX4_countVehiclesWith 3 = .ok (.getfield 11, 3) := by decide +kernel
theorem dX4_countVehiclesWith_6 : decode cX4_countVehiclesWith 6 = .ok (.astore_n 3, 1) := by decide +kernel
theorem dX4_countVehiclesWith_7 : decode cX4_countVehiclesWith 7 = .ok (.aload_n 3, 1) := by decide +kernel
theorem dX4_countVehiclesWith_8 : decode cX4_countVehiclesWith 8 = .ok (.arraylength, 1) := by decide +kernel
theorem dX4_countVehiclesWith_9 : decode cX4_countVehiclesWith 9 = .ok (.istore 4, 2) := by decide +kernel
theorem dX4_countVehiclesWith_11 : decode cX4_countVehiclesWith 11 = .ok (.iconst 0, 1) := by decide +kernel
theorem dX4_countVehiclesWith_12 : decode cX4_countVehiclesWith 12 = .ok (.istore 5, 2) := by decide +kernel
theorem dX4_countVehiclesWith_14 : decode cX4_countVehiclesWith 14 = .ok (.iload 5, 2) := by decide +kernel
theorem dX4_countVehiclesWith_16 : decode cX4_countVehiclesWith 16 = .ok (.iload 4, 2) := by decide +kernel
theorem dX4_countVehiclesWith_18 : decode cX4_countVehiclesWith 18 = .ok (.if_icmp .ge 35, 3) := by decide +kernel
theorem dX4_countVehiclesWith_21 : decode cX4_countVehiclesWith 21 = .ok (.aload_n 3, 1) := by decide +kernel
theorem dX4_countVehiclesWith_22 : decode cX4_countVehiclesWith 22 = .ok (.iload 5, 2) := by decide +kernel
theorem dX4_countVehiclesWith_24 : decode cX4_countVehiclesWith 24 = .ok (.aaload, 1) := by decide +kernel
theorem dX4_countVehiclesWith_25 : decode cX4_countVehiclesWith 25 = .ok (.astore 6, 2) := by decide +kernel
theorem dX4_countVehiclesWith_27 : decode cX4_countVehiclesWith 27 = .ok (.aload 6, 2) := by decide +kernel
theorem dX4_countVehiclesWith_29 : decode cX4_countVehiclesWith 29 = .ok (.ifnull 18, 3) := by decide +kernel
theorem dX4_countVehiclesWith_32 : decode cX4_countVehiclesWith 32 = .ok (.aload 6, 2) := by decide +kernel
theorem dX4_countVehiclesWith_34 : decode cX4_countVehiclesWith 34 = .ok (.getfield 99, 3) := by decide +kernel
theorem dX4_countVehiclesWith_37 : decode cX4_countVehiclesWith 37 = .ok (.invokevirtual 103, 3) := by decide +kernel
theorem dX4_countVehiclesWith_40 : decode cX4_countVehiclesWith 40 = .ok (.iload_n 1, 1) := by decide +kernel
theorem dX4_countVehiclesWith_41 : decode cX4_countVehiclesWith 41 = .ok (.if_icmp .ne 6, 3) := by decide +kernel
theorem dX4_countVehiclesWith_44 : decode cX4_countVehiclesWith 44 = .ok (.iinc 2 1, 3) := by decide +kernel
theorem dX4_countVehiclesWith_47 : decode cX4_countVehiclesWith 47 = .ok (.iinc 5 1, 3) := by decide +kernel
theorem dX4_countVehiclesWith_50 : decode cX4_countVehiclesWith 50 = .ok (.goto (-36), 3) := by decide +kernel
theorem dX4_countVehiclesWith_53 : decode cX4_countVehiclesWith 53 = .ok (.iload_n 2, 1) := by decide +kernel
theorem dX4_countVehiclesWith_54 : decode cX4_countVehiclesWith 54 = .ok (.ireturn, 1) := by decide +kernel
theorem dX4_arePlatesSound_0 : decode cX4_arePlatesSound 0 = .ok (.aload_n 0, 1) := by decide +kernel
theorem dX4_arePlatesSound_1 : decode cX4_arePlatesSound 1 = .ok (.getfield 17, 3) := by decide +kernel
theorem dX4_arePlatesSound_4 : decode cX4_arePlatesSound 4 = .ok (.astore_n 1, 1) := by decide +kernel
theorem dX4_arePlatesSound_5 : decode cX4_arePlatesSound 5 = .ok (.aload_n 1, 1) := by decide +kernel
theorem dX4_arePlatesSound_6 : decode cX4_arePlatesSound 6 = .ok (.arraylength, 1) := by decide +kernel
theorem dX4_arePlatesSound_7 : decode cX4_arePlatesSound 7 = .ok (.istore_n 2, 1) := by decide +kernel
theorem dX4_arePlatesSound_8 : decode cX4_arePlatesSound 8 = .ok (.iconst 0, 1) := by decide +kernel
theorem dX4_arePlatesSound_9 : decode cX4_arePlatesSound 9 = .ok (.istore_n 3, 1) := by decide +kernel
theorem dX4_arePlatesSound_10 : decode cX4_arePlatesSound 10 = .ok (.iload_n 3, 1) := by decide +kernel
theorem dX4_arePlatesSound_11 : decode cX4_arePlatesSound 11 = .ok (.iload_n 2, 1) := by decide +kernel
theorem dX4_arePlatesSound_12 : decode cX4_arePlatesSound 12 = .ok (.if_icmp .ge 62, 3) := by decide +kernel
theorem dX4_arePlatesSound_15 : decode cX4_arePlatesSound 15 = .ok (.aload_n 1, 1) := by decide +kernel
theorem dX4_arePlatesSound_16 : decode cX4_arePlatesSound 16 = .ok (.iload_n 3, 1) := by decide +kernel
theorem dX4_arePlatesSound_17 : decode cX4_arePlatesSound 17 = .ok (.aaload, 1) := by decide +kernel
theorem dX4_arePlatesSound_18 : decode cX4_arePlatesSound 18 = .ok (.astore 4, 2) := by decide +kernel
theorem dX4_arePlatesSound_20 : decode cX4_arePlatesSound 20 = .ok (.aload 4, 2) := by decide +kernel
theorem dX4_arePlatesSound_22 : decode cX4_arePlatesSound 22 = .ok (.ifnull 46, 3) := by decide +kernel
theorem dX4_arePlatesSound_25 : decode cX4_arePlatesSound 25 = .ok (.aload_n 0, 1) := by decide +kernel
theorem dX4_arePlatesSound_26 : decode cX4_arePlatesSound 26 = .ok (.aload 4, 2) := by decide +kernel
theorem dX4_arePlatesSound_28 : decode cX4_arePlatesSound 28 = .ok (.getfield 247, 3) := by decide +kernel
theorem dX4_arePlatesSound_31 : decode cX4_arePlatesSound 31 = .ok (.invokevirtual 362, 3) := by decide +kernel
theorem dX4_arePlatesSound_34 : decode cX4_arePlatesSound 34 = .ok (.iconst 1, 1) := by decide +kernel
theorem dX4_arePlatesSound_35 : decode cX4_arePlatesSound 35 = .ok (.if_icmp .gt 31, 3) := by decide +kernel
theorem dX4_arePlatesSound_38 : decode cX4_arePlatesSound 38 = .ok (.aload_n 0, 1) := by decide +kernel
theorem dX4_arePlatesSound_39 : decode cX4_arePlatesSound 39 = .ok (.aload 4, 2) := by decide +kernel
theorem dX4_arePlatesSound_41 : decode cX4_arePlatesSound 41 = .ok (.getfield 247, 3) := by decide +kernel
theorem dX4_arePlatesSound_44 : decode cX4_arePlatesSound 44 = .ok (.aload_n 0, 1) := by decide +kernel
theorem dX4_arePlatesSound_45 : decode cX4_arePlatesSound 45 = .ok (.getfield 48, 3) := by decide +kernel
theorem dX4_arePlatesSound_48 : decode cX4_arePlatesSound 48 = .ok (.invokevirtual 279, 3) := by decide +kernel
theorem dX4_arePlatesSound_51 : decode cX4_arePlatesSound 51 = .ok (.aload 4, 2) := by decide +kernel
theorem dX4_arePlatesSound_53 : decode cX4_arePlatesSound 53 = .ok (.getfield 265, 3) := by decide +kernel
theorem dX4_arePlatesSound_56 : decode cX4_arePlatesSound 56 = .ok (.aload_n 0, 1) := by decide +kernel
theorem dX4_arePlatesSound_57 : decode cX4_arePlatesSound 57 = .ok (.getfield 48, 3) := by decide +kernel
theorem dX4_arePlatesSound_60 : decode cX4_arePlatesSound 60 = .ok (.invokevirtual 128, 3) := by decide +kernel
theorem dX4_arePlatesSound_63 : decode cX4_arePlatesSound 63 = .ok (.if_icmp .eq 5, 3) := by decide +kernel
theorem dX4_arePlatesSound_66 : decode cX4_arePlatesSound 66 = .ok (.iconst 0, 1) := by decide +kernel
theorem dX4_arePlatesSound_67 : decode cX4_arePlatesSound 67 = .ok (.ireturn, 1) := by decide +kernel
theorem dX4_arePlatesSound_68 : decode cX4_arePlatesSound 68 = .ok (.iinc 3 1, 3) := by decide +kernel
theorem dX4_arePlatesSound_71 : decode cX4_arePlatesSound 71 = .ok (.goto (-61), 3) := by decide +kernel
theorem dX4_arePlatesSound_74 : decode cX4_arePlatesSound 74 = .ok (.iconst 1, 1) := by decide +kernel
theorem dX4_arePlatesSound_75 : decode cX4_arePlatesSound 75 = .ok (.ireturn, 1) := by decide +kernel
theorem dX4_enterNotice_0 : decode cX4_enterNotice 0 = .ok (.new 21, 3) := by decide +kernel
theorem dX4_enterNotice_3 : decode cX4_enterNotice 3 = .ok (.dup, 1) := by decide +kernel
theorem dX4_enterNotice_4 : decode cX4_enterNotice 4 = .ok (.aload_n 0, 1) := by decide +kernel
theorem dX4_enterNotice_5 : decode cX4_enterNotice 5 = .ok (.getfield 334, 3) := by decide +kernel
theorem dX4_enterNotice_8 : decode cX4_enterNotice 8 = .ok (.iload_n 1, 1) := by decide +kernel
theorem dX4_enterNotice_9 : decode cX4_enterNotice 9 = .ok (.aload_n 2, 1) := by decide +kernel
theorem dX4_enterNotice_10 : decode cX4_enterNotice 10 = .ok (.getfield 78, 3) := by decide +kernel
theorem dX4_enterNotice_13 : decode cX4_enterNotice 13 = .ok (.iload_n 3, 1) := by decide +kernel
theorem dX4_enterNotice_14 : decode cX4_enterNotice 14 = .ok (.iload 4, 2) := by decide +kernel
theorem dX4_enterNotice_16 : decode cX4_enterNotice 16 = .ok (.invokespecial 365, 3) := by decide +kernel
theorem dX4_enterNotice_19 : decode cX4_enterNotice 19 = .ok (.astore 5, 2) := by decide +kernel
theorem dX4_enterNotice_21 : decode cX4_enterNotice 21 = .ok (.aload_n 0, 1) := by decide +kernel
theorem dX4_enterNotice_22 : decode cX4_enterNotice 22 = .ok (.getfield 334, 3) := by decide +kernel
theorem dX4_enterNotice_25 : decode cX4_enterNotice 25 = .ok (.aload_n 0, 1) := by decide +kernel
theorem dX4_enterNotice_26 : decode cX4_enterNotice 26 = .ok (.getfield 23, 3) := by decide +kernel
theorem dX4_enterNotice_29 : decode cX4_enterNotice 29 = .ok (.arraylength, 1) := by decide +kernel
theorem dX4_enterNotice_30 : decode cX4_enterNotice 30 = .ok (.if_icmp .ge 24, 3) := by decide +kernel
theorem dX4_enterNotice_33 : decode cX4_enterNotice 33 = .ok (.aload_n 0, 1) := by decide +kernel
theorem dX4_enterNotice_34 : decode cX4_enterNotice 34 = .ok (.getfield 23, 3) := by decide +kernel
theorem dX4_enterNotice_37 : decode cX4_enterNotice 37 = .ok (.aload_n 0, 1) := by decide +kernel
theorem dX4_enterNotice_38 : decode cX4_enterNotice 38 = .ok (.getfield 334, 3) := by decide +kernel
theorem dX4_enterNotice_41 : decode cX4_enterNotice 41 = .ok (.aload 5, 2) := by decide +kernel
theorem dX4_enterNotice_43 : decode cX4_enterNotice 43 = .ok (.aastore, 1) := by decide +kernel
theorem dX4_enterNotice_44 : decode cX4_enterNotice 44 = .ok (.aload_n 0, 1) := by decide +kernel
theorem dX4_enterNotice_45 : decode cX4_enterNotice 45 = .ok (.dup, 1) := by decide +kernel
theorem dX4_enterNotice_46 : decode cX4_enterNotice 46 = .ok (.getfield 334, 3) := by decide +kernel
theorem dX4_enterNotice_49 : decode cX4_enterNotice 49 = .ok (.iconst 1, 1) := by decide +kernel
theorem dX4_enterNotice_50 : decode cX4_enterNotice 50 = .ok (.iadd, 1) := by decide +kernel
theorem dX4_enterNotice_51 : decode cX4_enterNotice 51 = .ok (.putfield 334, 3) := by decide +kernel
theorem dX4_enterNotice_54 : decode cX4_enterNotice 54 = .ok (.aload_n 0, 1) := by decide +kernel
theorem dX4_enterNotice_55 : decode cX4_enterNotice 55 = .ok (.aload_n 2, 1) := by decide +kernel
theorem dX4_enterNotice_56 : decode cX4_enterNotice 56 = .ok (.invokevirtual 225, 3) := by decide +kernel
theorem dX4_enterNotice_59 : decode cX4_enterNotice 59 = .ok (.aload 5, 2) := by decide +kernel
theorem dX4_enterNotice_61 : decode cX4_enterNotice 61 = .ok (.getfield 368, 3) := by decide +kernel
theorem dX4_enterNotice_64 : decode cX4_enterNotice 64 = .ok (.ireturn, 1) := by decide +kernel
theorem dX4_settle_0 : decode cX4_settle 0 = .ok (.iconst 0, 1) := by decide +kernel
theorem dX4_settle_1 : decode cX4_settle 1 = .ok (.istore_n 2, 1) := by decide +kernel
theorem dX4_settle_2 : decode cX4_settle 2 = .ok (.iload_n 2, 1) := by decide +kernel
theorem dX4_settle_3 : decode cX4_settle 3 = .ok (.bipush 120, 2) := by decide +kernel
theorem dX4_settle_5 : decode cX4_settle 5 = .ok (.if_icmp .ge 17, 3) := by decide +kernel
theorem dX4_settle_8 : decode cX4_settle 8 = .ok (.aload_n 0, 1) := by decide +kernel
theorem dX4_settle_9 : decode cX4_settle 9 = .ok (.aload_n 1, 1) := by decide +kernel
theorem dX4_settle_10 : decode cX4_settle 10 = .ok (.invokevirtual 369, 3) := by decide +kernel
theorem dX4_settle_13 : decode cX4_settle 13 = .ok (.ifCond .eq 9, 3) := by decide +kernel
theorem dX4_settle_16 : decode cX4_settle 16 = .ok (.iinc 2 1, 3) := by decide +kernel
theorem dX4_settle_19 : decode cX4_settle 19 = .ok (.goto (-17), 3) := by decide +kernel
theorem dX4_settle_22 : decode cX4_settle 22 = .ok (.return_, 1) := by decide +kernel
theorem dX4_useFirstPair_0 : decode cX4_useFirstPair 0 = .ok (.aload_n 1, 1) := by decide +kernel
theorem dX4_useFirstPair_1 : decode cX4_useFirstPair 1 = .ok (.invokevirtual 228, 3) := by decide +kernel
theorem dX4_useFirstPair_4 : decode cX4_useFirstPair 4 = .ok (.ifCond .eq 5, 3) := by decide +kernel
theorem dX4_useFirstPair_7 : decode cX4_useFirstPair 7 = .ok (.iconst 0, 1) := by decide +kernel
theorem dX4_useFirstPair_8 : decode cX4_useFirstPair 8 = .ok (.ireturn, 1) := by decide +kernel
theorem dX4_useFirstPair_9 : decode cX4_useFirstPair 9 = .ok (.aload_n 0, 1) := by decide +kernel
theorem dX4_useFirstPair_10 : decode cX4_useFirstPair 10 = .ok (.getfield 23, 3) := by decide +kernel
theorem dX4_useFirstPair_13 : decode cX4_useFirstPair 13 = .ok (.astore_n 2, 1) := by decide +kernel
theorem dX4_useFirstPair_14 : decode cX4_useFirstPair 14 = .ok (.aload_n 2, 1) := by decide +kernel
theorem dX4_useFirstPair_15 : decode cX4_useFirstPair 15 = .ok (.arraylength, 1) := by decide +kernel
theorem dX4_useFirstPair_16 : decode cX4_useFirstPair 16 = .ok (.istore_n 3, 1) := by decide +kernel
theorem dX4_useFirstPair_17 : decode cX4_useFirstPair 17 = .ok (.iconst 0, 1) := by decide +kernel
theorem dX4_useFirstPair_18 : decode cX4_useFirstPair 18 = .ok (.istore 4, 2) := by decide +kernel
theorem dX4_useFirstPair_20 : decode cX4_useFirstPair 20 = .ok (.iload 4, 2) := by decide +kernel
theorem dX4_useFirstPair_22 : decode cX4_useFirstPair 22 = .ok (.iload_n 3, 1) := by decide +kernel
theorem dX4_useFirstPair_23 : decode cX4_useFirstPair 23 = .ok (.if_icmp .ge 56, 3) := by decide +kernel
theorem dX4_useFirstPair_26 : decode cX4_useFirstPair 26 = .ok (.aload_n 2, 1) := by decide +kernel
theorem dX4_useFirstPair_27 : decode cX4_useFirstPair 27 = .ok (.iload 4, 2) := by decide +kernel
theorem dX4_useFirstPair_29 : decode cX4_useFirstPair 29 = .ok (.aaload, 1) := by decide +kernel
theorem dX4_useFirstPair_30 : decode cX4_useFirstPair 30 = .ok (.astore 5, 2) := by decide +kernel
theorem dX4_useFirstPair_32 : decode cX4_useFirstPair 32 = .ok (.aload 5, 2) := by decide +kernel
theorem dX4_useFirstPair_34 : decode cX4_useFirstPair 34 = .ok (.ifnull 21, 3) := by decide +kernel
theorem dX4_useFirstPair_37 : decode cX4_useFirstPair 37 = .ok (.aload_n 1, 1) := by decide +kernel
theorem dX4_useFirstPair_38 : decode cX4_useFirstPair 38 = .ok (.aload 5, 2) := by decide +kernel
theorem dX4_useFirstPair_40 : decode cX4_useFirstPair 40 = .ok (.invokestatic 373, 3) := by decide +kernel
theorem dX4_useFirstPair_43 : decode cX4_useFirstPair 43 = .ok (.ifCond .eq 12, 3) := by decide +kernel
theorem dX4_useFirstPair_46 : decode cX4_useFirstPair 46 = .ok (.aload_n 0, 1) := by decide +kernel
theorem dX4_useFirstPair_47 : decode cX4_useFirstPair 47 = .ok (.aload 5, 2) := by decide +kernel
theorem dX4_useFirstPair_49 : decode cX4_useFirstPair 49 = .ok (.invokevirtual 377, 3) := by decide +kernel
theorem dX4_useFirstPair_52 : decode cX4_useFirstPair 52 = .ok (.goto 4, 3) := by decide +kernel
theorem dX4_useFirstPair_55 : decode cX4_useFirstPair 55 = .ok (.aconst_null, 1) := by decide +kernel
theorem dX4_useFirstPair_56 : decode cX4_useFirstPair 56 = .ok (.astore 6, 2) := by decide +kernel
theorem dX4_useFirstPair_58 : decode cX4_useFirstPair 58 = .ok (.aload 6, 2) := by decide +kernel
theorem dX4_useFirstPair_60 : decode cX4_useFirstPair 60 = .ok (.ifnull 13, 3) := by decide +kernel
theorem dX4_useFirstPair_63 : decode cX4_useFirstPair 63 = .ok (.aload 5, 2) := by decide +kernel
theorem dX4_useFirstPair_65 : decode cX4_useFirstPair 65 = .ok (.aload 6, 2) := by decide +kernel
theorem dX4_useFirstPair_67 : decode cX4_useFirstPair 67 = .ok (.aload_n 1, 1) := by decide +kernel
theorem dX4_useFirstPair_68 : decode cX4_useFirstPair 68 = .ok (.invokestatic 381, 3) := by decide +kernel
theorem dX4_useFirstPair_71 : decode cX4_useFirstPair 71 = .ok (.iconst 1, 1) := by decide +kernel
theorem dX4_useFirstPair_72 : decode cX4_useFirstPair 72 = .ok (.ireturn, 1) := by decide +kernel
theorem dX4_useFirstPair_73 : decode cX4_useFirstPair 73 = .ok (.iinc 4 1, 3) := by decide +kernel
theorem dX4_useFirstPair_76 : decode cX4_useFirstPair 76 = .ok (.goto (-56), 3) := by decide +kernel
theorem dX4_useFirstPair_79 : decode cX4_useFirstPair 79 = .ok (.iconst 0, 1) := by decide +kernel
theorem dX4_useFirstPair_80 : decode cX4_useFirstPair 80 = .ok (.ireturn, 1) := by decide +kernel
theorem dX4_maySell_0 : decode cX4_maySell 0 = .ok (.aload_n 1, 1) := by decide +kernel
theorem dX4_maySell_1 : decode cX4_maySell 1 = .ok (.aload_n 0, 1) := by decide +kernel
theorem dX4_maySell_2 : decode cX4_maySell 2 = .ok (.getfield 78, 3) := by decide +kernel
theorem dX4_maySell_5 : decode cX4_maySell 5 = .ok (.invokevirtual 178, 3) := by decide +kernel
theorem dX4_maySell_8 : decode cX4_maySell 8 = .ok (.ifCond .eq 35, 3) := by decide +kernel
theorem dX4_maySell_11 : decode cX4_maySell 11 = .ok (.aload_n 1, 1) := by decide +kernel
theorem dX4_maySell_12 : decode cX4_maySell 12 = .ok (.getfield 385, 3) := by decide +kernel
theorem dX4_maySell_15 : decode cX4_maySell 15 = .ok (.aload_n 0, 1) := by decide +kernel
theorem dX4_maySell_16 : decode cX4_maySell 16 = .ok (.getfield 182, 3) := by decide +kernel
theorem dX4_maySell_19 : decode cX4_maySell 19 = .ok (.invokevirtual 103, 3) := by decide +kernel
theorem dX4_maySell_22 : decode cX4_maySell 22 = .ok (.if_icmp .ne 21, 3) := by decide +kernel
theorem dX4_maySell_25 : decode cX4_maySell 25 = .ok (.aload_n 1, 1) := by decide +kernel
theorem dX4_maySell_26 : decode cX4_maySell 26 = .ok (.getfield 388, 3) := by decide +kernel
theorem dX4_maySell_29 : decode cX4_maySell 29 = .ok (.aload_n 0, 1) := by decide +kernel
theorem dX4_maySell_30 : decode cX4_maySell 30 = .ok (.getfield 182, 3) := by decide +kernel
theorem dX4_maySell_33 : decode cX4_maySell 33 = .ok (.invokevirtual 391, 3) := by decide +kernel
theorem dX4_maySell_36 : decode cX4_maySell 36 = .ok (.if_icmp .lt 7, 3) := by decide +kernel
theorem dX4_maySell_39 : decode cX4_maySell 39 = .ok (.iconst 1, 1) := by decide +kernel
theorem dX4_maySell_40 : decode cX4_maySell 40 = .ok (.goto 4, 3) := by decide +kernel
theorem dX4_maySell_43 : decode cX4_maySell 43 = .ok (.iconst 0, 1) := by decide +kernel
theorem dX4_maySell_44 : decode cX4_maySell 44 = .ok (.ireturn, 1) := by decide +kernel
theorem dX4_buyerFor_0 : decode cX4_buyerFor 0 = .ok (.aload_n 0, 1) := by decide +kernel
theorem dX4_buyerFor_1 : decode cX4_buyerFor 1 = .ok (.getfield 23, 3) := by decide +kernel
theorem dX4_buyerFor_4 : decode cX4_buyerFor 4 = .ok (.astore_n 2, 1) := by decide +kernel
theorem dX4_buyerFor_5 : decode cX4_buyerFor 5 = .ok (.aload_n 2, 1) := by decide +kernel
theorem dX4_buyerFor_6 : decode cX4_buyerFor 6 = .ok (.arraylength, 1) := by decide +kernel
theorem dX4_buyerFor_7 : decode cX4_buyerFor 7 = .ok (.istore_n 3, 1) := by decide +kernel
theorem dX4_buyerFor_8 : decode cX4_buyerFor 8 = .ok (.iconst 0, 1) := by decide +kernel
theorem dX4_buyerFor_9 : decode cX4_buyerFor 9 = .ok (.istore 4, 2) := by decide +kernel
theorem dX4_buyerFor_11 : decode cX4_buyerFor 11 = .ok (.iload 4, 2) := by decide +kernel
theorem dX4_buyerFor_13 : decode cX4_buyerFor 13 = .ok (.iload_n 3, 1) := by decide +kernel
theorem dX4_buyerFor_14 : decode cX4_buyerFor 14 = .ok (.if_icmp .ge 74, 3) := by decide +kernel
theorem dX4_buyerFor_17 : decode cX4_buyerFor 17 = .ok (.aload_n 2, 1) := by decide +kernel
theorem dX4_buyerFor_18 : decode cX4_buyerFor 18 = .ok (.iload 4, 2) := by decide +kernel
theorem dX4_buyerFor_20 : decode cX4_buyerFor 20 = .ok (.aaload, 1) := by decide +kernel
theorem dX4_buyerFor_21 : decode cX4_buyerFor 21 = .ok (.astore 5, 2) := by decide +kernel
theorem dX4_buyerFor_23 : decode cX4_buyerFor 23 = .ok (.aload 5, 2) := by decide +kernel
theorem dX4_buyerFor_25 : decode cX4_buyerFor 25 = .ok (.ifnull 57, 3) := by decide +kernel
theorem dX4_buyerFor_28 : decode cX4_buyerFor 28 = .ok (.aload 5, 2) := by decide +kernel
theorem dX4_buyerFor_30 : decode cX4_buyerFor 30 = .ok (.getfield 385, 3) := by decide +kernel
theorem dX4_buyerFor_33 : decode cX4_buyerFor 33 = .ok (.iconst (-1), 1) := by decide +kernel
theorem dX4_buyerFor_34 : decode cX4_buyerFor 34 = .ok (.if_icmp .ne 48, 3) := by decide +kernel
theorem dX4_buyerFor_37 : decode cX4_buyerFor 37 = .ok (.aload 5, 2) := by decide +kernel
theorem dX4_buyerFor_39 : decode cX4_buyerFor 39 = .ok (.aload_n 1, 1) := by decide +kernel
theorem dX4_buyerFor_40 : decode cX4_buyerFor 40 = .ok (.getfield 394, 3) := by decide +kernel
theorem dX4_buyerFor_43 : decode cX4_buyerFor 43 = .ok (.invokevirtual 178, 3) := by decide +kernel
theorem dX4_buyerFor_46 : decode cX4_buyerFor 46 = .ok (.ifCond .eq 36, 3) := by decide +kernel
theorem dX4_buyerFor_49 : decode cX4_buyerFor 49 = .ok (.aload 5, 2) := by decide +kernel
theorem dX4_buyerFor_51 : decode cX4_buyerFor 51 = .ok (.getfield 397, 3) := by decide +kernel
theorem dX4_buyerFor_54 : decode cX4_buyerFor 54 = .ok (.aload_n 1, 1) := by decide +kernel
theorem dX4_buyerFor_55 : decode cX4_buyerFor 55 = .ok (.getfield 397, 3) := by decide +kernel
theorem dX4_buyerFor_58 : decode cX4_buyerFor 58 = .ok (.if_icmp .ne 24, 3) := by decide +kernel
theorem dX4_buyerFor_61 : decode cX4_buyerFor 61 = .ok (.aload 5, 2) := by decide +kernel
theorem dX4_buyerFor_63 : decode cX4_buyerFor 63 = .ok (.getfield 388, 3) := by decide +kernel
theorem dX4_buyerFor_66 : decode cX4_buyerFor 66 = .ok (.aload_n 1, 1) := by decide +kernel
theorem dX4_buyerFor_67 : decode cX4_buyerFor 67 = .ok (.getfield 388, 3) := by decide +kernel
theorem dX4_buyerFor_70 : decode cX4_buyerFor 70 = .ok (.isub, 1) := by decide +kernel
theorem dX4_buyerFor_71 : decode cX4_buyerFor 71 = .ok (.invokestatic 400, 3) := by decide +kernel
theorem dX4_buyerFor_74 : decode cX4_buyerFor 74 = .ok (.bipush 7, 2) := by decide +kernel
theorem dX4_buyerFor_76 : decode cX4_buyerFor 76 = .ok (.if_icmp .gt 6, 3) := by decide +kernel
theorem dX4_buyerFor_79 : decode cX4_buyerFor 79 = .ok (.aload 5, 2) := by decide +kernel
theorem dX4_buyerFor_81 : decode cX4_buyerFor 81 = .ok (.areturn, 1) := by decide +kernel
theorem dX4_buyerFor_82 : decode cX4_buyerFor 82 = .ok (.iinc 4 1, 3) := by decide +kernel
theorem dX4_buyerFor_85 : decode cX4_buyerFor 85 = .ok (.goto (-74), 3) := by decide +kernel
theorem dX4_buyerFor_88 : decode cX4_buyerFor 88 = .ok (.aconst_null, 1) := by decide +kernel
theorem dX4_buyerFor_89 : decode cX4_buyerFor 89 = .ok (.areturn, 1) := by decide +kernel
theorem dX4_use_0 : decode cX4_use 0 = .ok (.aload_n 0, 1) := by decide +kernel
theorem dX4_use_1 : decode cX4_use 1 = .ok (.bipush 117, 2) := by decide +kernel
theorem dX4_use_3 : decode cX4_use 3 = .ok (.putfield 165, 3) := by decide +kernel
theorem dX4_use_6 : decode cX4_use 6 = .ok (.aload_n 0, 1) := by decide +kernel
theorem dX4_use_7 : decode cX4_use 7 = .ok (.aload_n 1, 1) := by decide +kernel
theorem dX4_use_8 : decode cX4_use 8 = .ok (.getfield 368, 3) := by decide +kernel
theorem dX4_use_11 : decode cX4_use 11 = .ok (.putfield 175, 3) := by decide +kernel
theorem dX4_use_14 : decode cX4_use 14 = .ok (.aload_n 1, 1) := by decide +kernel
theorem dX4_use_15 : decode cX4_use 15 = .ok (.bipush 117, 2) := by decide +kernel
theorem dX4_use_17 : decode cX4_use 17 = .ok (.putfield 165, 3) := by decide +kernel
theorem dX4_use_20 : decode cX4_use 20 = .ok (.aload_n 1, 1) := by decide +kernel
theorem dX4_use_21 : decode cX4_use 21 = .ok (.aload_n 0, 1) := by decide +kernel
theorem dX4_use_22 : decode cX4_use 22 = .ok (.getfield 368, 3) := by decide +kernel
theorem dX4_use_25 : decode cX4_use 25 = .ok (.putfield 175, 3) := by decide +kernel
theorem dX4_use_28 : decode cX4_use 28 = .ok (.aload_n 2, 1) := by decide +kernel
theorem dX4_use_29 : decode cX4_use 29 = .ok (.getfield 182, 3) := by decide +kernel
theorem dX4_use_32 : decode cX4_use 32 = .ok (.aload_n 0, 1) := by decide +kernel
theorem dX4_use_33 : decode cX4_use 33 = .ok (.getfield 388, 3) := by decide +kernel
theorem dX4_use_36 : decode cX4_use 36 = .ok (.aload_n 0, 1) := by decide +kernel
theorem dX4_use_37 : decode cX4_use 37 = .ok (.getfield 397, 3) := by decide +kernel
theorem dX4_use_40 : decode cX4_use 40 = .ok (.invokevirtual 357, 3) := by decide +kernel
theorem dX4_use_43 : decode cX4_use 43 = .ok (.return_, 1) := by decide +kernel
theorem dX4_countOpen_0 : decode cX4_countOpen 0 = .ok (.iconst 0, 1) := by decide +kernel
theorem dX4_countOpen_1 : decode cX4_countOpen 1 = .ok (.istore_n 1, 1) := by decide +kernel
theorem dX4_countOpen_2 : decode cX4_countOpen 2 = .ok (.aload_n 0, 1) := by decide +kernel
theorem dX4_countOpen_3 : decode cX4_countOpen 3 = .ok (.getfield 23, 3) := by decide +kernel
theorem dX4_countOpen_6 : decode cX4_countOpen 6 = .ok (.astore_n 2, 1) := by decide +kernel
theorem dX4_countOpen_7 : decode cX4_countOpen 7 = .ok (.aload_n 2, 1) := by decide +kernel
theorem dX4_countOpen_8 : decode cX4_countOpen 8 = .ok (.arraylength, 1) := by decide +kernel
theorem dX4_countOpen_9 : decode cX4_countOpen 9 = .ok (.istore_n 3, 1) := by decide +kernel
theorem dX4_countOpen_10 : decode cX4_countOpen 10 = .ok (.iconst 0, 1) := by decide +kernel
theorem dX4_countOpen_11 : decode cX4_countOpen 11 = .ok (.istore 4, 2) := by decide +kernel
theorem dX4_countOpen_13 : decode cX4_countOpen 13 = .ok (.iload 4, 2) := by decide +kernel
theorem dX4_countOpen_15 : decode cX4_countOpen 15 = .ok (.iload_n 3, 1) := by decide +kernel
theorem dX4_countOpen_16 : decode cX4_countOpen 16 = .ok (.if_icmp .ge 33, 3) := by decide +kernel
theorem dX4_countOpen_19 : decode cX4_countOpen 19 = .ok (.aload_n 2, 1) := by decide +kernel
theorem dX4_countOpen_20 : decode cX4_countOpen 20 = .ok (.iload 4, 2) := by decide +kernel
theorem dX4_countOpen_22 : decode cX4_countOpen 22 = .ok (.aaload, 1) := by decide +kernel
theorem dX4_countOpen_23 : decode cX4_countOpen 23 = .ok (.astore 5, 2) := by decide +kernel
theorem dX4_countOpen_25 : decode cX4_countOpen 25 = .ok (.aload 5, 2) := by decide +kernel
theorem dX4_countOpen_27 : decode cX4_countOpen 27 = .ok (.ifnull 16, 3) := by decide +kernel
theorem dX4_countOpen_30 : decode cX4_countOpen 30 = .ok (.aload 5, 2) := by decide +kernel
theorem dX4_countOpen_32 : decode cX4_countOpen 32 = .ok (.getfield 165, 3) := by decide +kernel
theorem dX4_countOpen_35 : decode cX4_countOpen 35 = .ok (.bipush 111, 2) := by decide +kernel
theorem dX4_countOpen_37 : decode cX4_countOpen 37 = .ok (.if_icmp .ne 6, 3) := by decide +kernel
theorem dX4_countOpen_40 : decode cX4_countOpen 40 = .ok (.iinc 1 1, 3) := by decide +kernel
theorem dX4_countOpen_43 : decode cX4_countOpen 43 = .ok (.iinc 4 1, 3) := by decide +kernel
theorem dX4_countOpen_46 : decode cX4_countOpen 46 = .ok (.goto (-33), 3) := by decide +kernel
theorem dX4_countOpen_49 : decode cX4_countOpen 49 = .ok (.iload_n 1, 1) := by decide +kernel
theorem dX4_countOpen_50 : decode cX4_countOpen 50 = .ok (.ireturn, 1) := by decide +kernel
theorem dX4_taxFor_0 : decode cX4_taxFor 0 = .ok (.iload_n 0, 1) := by decide +kernel
theorem dX4_taxFor_1 : decode cX4_taxFor 1 = .ok (.lookupswitch 45 #[(99, 35), (108, 41), (109, 38)], 35) := by decide +kernel
theorem dX4_taxFor_36 : decode cX4_taxFor 36 = .ok (.bipush 60, 2) := by decide +kernel
theorem dX4_taxFor_38 : decode cX4_taxFor 38 = .ok (.ireturn, 1) := by decide +kernel
theorem dX4_taxFor_39 : decode cX4_taxFor 39 = .ok (.bipush 20, 2) := by decide +kernel
theorem dX4_taxFor_41 : decode cX4_taxFor 41 = .ok (.ireturn, 1) := by decide +kernel
theorem dX4_taxFor_42 : decode cX4_taxFor 42 = .ok (.sipush 150, 3) := by decide +kernel
theorem dX4_taxFor_45 : decode cX4_taxFor 45 = .ok (.ireturn, 1) := by decide +kernel
theorem dX4_taxFor_46 : decode cX4_taxFor 46 = .ok (.iconst 0, 1) := by decide +kernel
theorem dX4_taxFor_47 : decode cX4_taxFor 47 = .ok (.ireturn, 1) := by decide +kernel
theorem dX4_firstRoadDay_0 : decode cX4_firstRoadDay 0 = .ok (.iload_n 2, 1) := by decide +kernel
theorem dX4_firstRoadDay_1 : decode cX4_firstRoadDay 1 = .ok (.bipush 90, 2) := by decide +kernel
theorem dX4_firstRoadDay_3 : decode cX4_firstRoadDay 3 = .ok (.imul, 1) := by decide +kernel
theorem dX4_firstRoadDay_4 : decode cX4_firstRoadDay 4 = .ok (.istore_n 3, 1) := by decide +kernel
theorem dX4_firstRoadDay_5 : decode cX4_firstRoadDay 5 = .ok (.iload_n 3, 1) := by decide +kernel
theorem dX4_firstRoadDay_6 : decode cX4_firstRoadDay 6 = .ok (.bipush 90, 2) := by decide +kernel
theorem dX4_firstRoadDay_8 : decode cX4_firstRoadDay 8 = .ok (.iadd, 1) := by decide +kernel
theorem dX4_firstRoadDay_9 : decode cX4_firstRoadDay 9 = .ok (.iconst 1, 1) := by decide +kernel
theorem dX4_firstRoadDay_10 : decode cX4_firstRoadDay 10 = .ok (.isub, 1) := by decide +kernel
theorem dX4_firstRoadDay_11 : decode cX4_firstRoadDay 11 = .ok (.aload_n 0, 1) := by decide +kernel
theorem dX4_firstRoadDay_12 : decode cX4_firstRoadDay 12 = .ok (.getfield 48, 3) := by decide +kernel
theorem dX4_firstRoadDay_15 : decode cX4_firstRoadDay 15 = .ok (.invokestatic 405, 3) := by decide +kernel
theorem dX4_firstRoadDay_18 : decode cX4_firstRoadDay 18 = .ok (.istore 4, 2) := by decide +kernel
theorem dX4_firstRoadDay_20 : decode cX4_firstRoadDay 20 = .ok (.aload_n 1, 1) := by decide +kernel
theorem dX4_firstRoadDay_21 : decode cX4_firstRoadDay 21 = .ok (.getfield 118, 3) := by decide +kernel
theorem dX4_firstRoadDay_24 : decode cX4_firstRoadDay 24 = .ok (.iconst 1, 1) := by decide +kernel
theorem dX4_firstRoadDay_25 : decode cX4_firstRoadDay 25 = .ok (.iload_n 3, 1) := by decide +kernel
theorem dX4_firstRoadDay_26 : decode cX4_firstRoadDay 26 = .ok (.iload 4, 2) := by decide +kernel
theorem dX4_firstRoadDay_28 : decode cX4_firstRoadDay 28 = .ok (.invokevirtual 408, 3) := by decide +kernel
theorem dX4_firstRoadDay_31 : decode cX4_firstRoadDay 31 = .ok (.ireturn, 1) := by decide +kernel
theorem dX4_sumByQuarters_0 : decode cX4_sumByQuarters 0 = .ok (.aload_n 0, 1) := by decide +kernel
theorem dX4_sumByQuarters_1 : decode cX4_sumByQuarters 1 = .ok (.aload_n 0, 1) := by decide +kernel
theorem dX4_sumByQuarters_2 : decode cX4_sumByQuarters 2 = .ok (.getfield 31, 3) := by decide +kernel
theorem dX4_sumByQuarters_5 : decode cX4_sumByQuarters 5 = .ok (.invokevirtual 412, 3) := by decide +kernel
theorem dX4_sumByQuarters_8 : decode cX4_sumByQuarters 8 = .ok (.aload_n 0, 1) := by decide +kernel
theorem dX4_sumByQuarters_9 : decode cX4_sumByQuarters 9 = .ok (.getfield 48, 3) := by decide +kernel
theorem dX4_sumByQuarters_12 : decode cX4_sumByQuarters 12 = .ok (.bipush 90, 2) := by decide +kernel
theorem dX4_sumByQuarters_14 : decode cX4_sumByQuarters 14 = .ok (.idiv, 1) := by decide +kernel
theorem dX4_sumByQuarters_15 : decode cX4_sumByQuarters 15 = .ok (.iconst 1, 1) := by decide +kernel
theorem dX4_sumByQuarters_16 : decode cX4_sumByQuarters 16 = .ok (.iadd, 1) := by decide +kernel
theorem dX4_sumByQuarters_17 : decode cX4_sumByQuarters 17 = .ok (.istore_n 1, 1) := by decide +kernel
theorem dX4_sumByQuarters_18 : decode cX4_sumByQuarters 18 = .ok (.aload_n 0, 1) := by decide +kernel
theorem dX4_sumByQuarters_19 : decode cX4_sumByQuarters 19 = .ok (.getfield 11, 3) := by decide +kernel
theorem dX4_sumByQuarters_22 : decode cX4_sumByQuarters 22 = .ok (.astore_n 2, 1) := by decide +kernel
theorem dX4_sumByQuarters_23 : decode cX4_sumByQuarters 23 = .ok (.aload_n 2, 1) := by decide +kernel
theorem dX4_sumByQuarters_24 : decode cX4_sumByQuarters 24 = .ok (.arraylength, 1) := by decide +kernel
theorem dX4_sumByQuarters_25 : decode cX4_sumByQuarters 25 = .ok (.istore_n 3, 1) := by decide +kernel
theorem dX4_sumByQuarters_26 : decode cX4_sumByQuarters 26 = .ok (.iconst 0, 1) := by decide +kernel
theorem dX4_sumByQuarters_27 : decode cX4_sumByQuarters 27 = .ok (.istore 4, 2) := by decide +kernel
theorem dX4_sumByQuarters_29 : decode cX4_sumByQuarters 29 = .ok (.iload 4, 2) := by decide +kernel
theorem dX4_sumByQuarters_31 : decode cX4_sumByQuarters 31 = .ok (.iload_n 3, 1) := by decide +kernel
theorem dX4_sumByQuarters_32 : decode cX4_sumByQuarters 32 = .ok (.if_icmp .ge 76, 3) := by decide +kernel
theorem dX4_sumByQuarters_35 : decode cX4_sumByQuarters 35 = .ok (.aload_n 2, 1) := by decide +kernel
theorem dX4_sumByQuarters_36 : decode cX4_sumByQuarters 36 = .ok (.iload 4, 2) := by decide +kernel
theorem dX4_sumByQuarters_38 : decode cX4_sumByQuarters 38 = .ok (.aaload, 1) := by decide +kernel
theorem dX4_sumByQuarters_39 : decode cX4_sumByQuarters 39 = .ok (.astore 5, 2) := by decide +kernel
theorem dX4_sumByQuarters_41 : decode cX4_sumByQuarters 41 = .ok (.iconst 0, 1) := by decide +kernel
theorem dX4_sumByQuarters_42 : decode cX4_sumByQuarters 42 = .ok (.istore 6, 2) := by decide +kernel
theorem dX4_sumByQuarters_44 : decode cX4_sumByQuarters 44 = .ok (.aload 5, 2) := by decide +kernel
theorem dX4_sumByQuarters_46 : decode cX4_sumByQuarters 46 = .ok (.ifnull 56, 3) := by decide +kernel
theorem dX4_sumByQuarters_49 : decode cX4_sumByQuarters 49 = .ok (.iload 6, 2) := by decide +kernel
theorem dX4_sumByQuarters_51 : decode cX4_sumByQuarters 51 = .ok (.iload_n 1, 1) := by decide +kernel
theorem dX4_sumByQuarters_52 : decode cX4_sumByQuarters 52 = .ok (.if_icmp .ge 50, 3) := by decide +kernel
theorem dX4_sumByQuarters_55 : decode cX4_sumByQuarters 55 = .ok (.aload_n 0, 1) := by decide +kernel
theorem dX4_sumByQuarters_56 : decode cX4_sumByQuarters 56 = .ok (.aload 5, 2) := by decide +kernel
theorem dX4_sumByQuarters_58 : decode cX4_sumByQuarters 58 = .ok (.iload 6, 2) := by decide +kernel
theorem dX4_sumByQuarters_60 : decode cX4_sumByQuarters 60 = .ok (.invokevirtual 285, 3) := by decide +kernel
theorem dX4_sumByQuarters_63 : decode cX4_sumByQuarters 63 = .ok (.istore 7, 2) := by decide +kernel
theorem dX4_sumByQuarters_65 : decode cX4_sumByQuarters 65 = .ok (.iload 7, 2) := by decide +kernel
theorem dX4_sumByQuarters_67 : decode cX4_sumByQuarters 67 = .ok (.iconst (-1), 1) := by decide +kernel
theorem dX4_sumByQuarters_68 : decode cX4_sumByQuarters 68 = .ok (.if_icmp .eq 28, 3) := by decide +kernel
theorem dX4_sumByQuarters_71 : decode cX4_sumByQuarters 71 = .ok (.aload_n 0, 1) := by decide +kernel
theorem dX4_sumByQuarters_72 : decode cX4_sumByQuarters 72 = .ok (.getfield 31, 3) := by decide +kernel
theorem dX4_sumByQuarters_75 : decode cX4_sumByQuarters 75 = .ok (.aload 5, 2) := by decide +kernel
theorem dX4_sumByQuarters_77 : decode cX4_sumByQuarters 77 = .ok (.getfield 182, 3) := by decide +kernel
theorem dX4_sumByQuarters_80 : decode cX4_sumByQuarters 80 = .ok (.iload 7, 2) := by decide +kernel
theorem dX4_sumByQuarters_82 : decode cX4_sumByQuarters 82 = .ok (.invokevirtual 128, 3) := by decide +kernel
theorem dX4_sumByQuarters_85 : decode cX4_sumByQuarters 85 = .ok (.aload 5, 2) := by decide +kernel
theorem dX4_sumByQuarters_87 : decode cX4_sumByQuarters 87 = .ok (.getfield 145, 3) := by decide +kernel
theorem dX4_sumByQuarters_90 : decode cX4_sumByQuarters 90 = .ok (.invokestatic 289, 3) := by decide +kernel
theorem dX4_sumByQuarters_93 : decode cX4_sumByQuarters 93 = .ok (.invokestatic 211, 3) := by decide +kernel
theorem dX4_sumByQuarters_96 : decode cX4_sumByQuarters 96 = .ok (.iinc 6 1, 3) := by decide +kernel
theorem dX4_sumByQuarters_99 : decode cX4_sumByQuarters 99 = .ok (.goto (-55), 3) := by decide +kernel
theorem dX4_sumByQuarters_102 : decode cX4_sumByQuarters 102 = .ok (.iinc 4 1, 3) := by decide +kernel
theorem dX4_sumByQuarters_105 : decode cX4_sumByQuarters 105 = .ok (.goto (-76), 3) := by decide +kernel
theorem dX4_sumByQuarters_108 : decode cX4_sumByQuarters 108 = .ok (.return_, 1) := by decide +kernel
theorem dX4_sumByDays_0 : decode cX4_sumByDays 0 = .ok (.aload_n 0, 1) := by decide +kernel
theorem dX4_sumByDays_1 : decode cX4_sumByDays 1 = .ok (.aload_n 0, 1) := by decide +kernel
theorem dX4_sumByDays_2 : decode cX4_sumByDays 2 = .ok (.getfield 34, 3) := by decide +kernel
theorem dX4_sumByDays_5 : decode cX4_sumByDays 5 = .ok (.invokevirtual 412, 3) := by decide +kernel
theorem dX4_sumByDays_8 : decode cX4_sumByDays 8 = .ok (.aload_n 0, 1) := by decide +kernel
theorem dX4_sumByDays_9 : decode cX4_sumByDays 9 = .ok (.getfield 11, 3) := by decide +kernel
theorem dX4_sumByDays_12 : decode cX4_sumByDays 12 = .ok (.astore_n 1, 1) := by decide +kernel
theorem dX4_sumByDays_13 : decode cX4_sumByDays 13 = .ok (.aload_n 1, 1) := by decide +kernel
theorem dX4_sumByDays_14 : decode cX4_sumByDays 14 = .ok (.arraylength, 1) := by decide +kernel
theorem dX4_sumByDays_15 : decode cX4_sumByDays 15 = .ok (.istore_n 2, 1) := by decide +kernel
theorem dX4_sumByDays_16 : decode cX4_sumByDays 16 = .ok (.iconst 0, 1) := by decide +kernel
theorem dX4_sumByDays_17 : decode cX4_sumByDays 17 = .ok (.istore_n 3, 1) := by decide +kernel
theorem dX4_sumByDays_18 : decode cX4_sumByDays 18 = .ok (.iload_n 3, 1) := by decide +kernel
theorem dX4_sumByDays_19 : decode cX4_sumByDays 19 = .ok (.iload_n 2, 1) := by decide +kernel
theorem dX4_sumByDays_20 : decode cX4_sumByDays 20 = .ok (.if_icmp .ge 25, 3) := by decide +kernel
theorem dX4_sumByDays_23 : decode cX4_sumByDays 23 = .ok (.aload_n 1, 1) := by decide +kernel
theorem dX4_sumByDays_24 : decode cX4_sumByDays 24 = .ok (.iload_n 3, 1) := by decide +kernel
theorem dX4_sumByDays_25 : decode cX4_sumByDays 25 = .ok (.aaload, 1) := by decide +kernel
theorem dX4_sumByDays_26 : decode cX4_sumByDays 26 = .ok (.astore 4, 2) := by decide +kernel
theorem dX4_sumByDays_28 : decode cX4_sumByDays 28 = .ok (.aload 4, 2) := by decide +kernel
theorem dX4_sumByDays_30 : decode cX4_sumByDays 30 = .ok (.ifnull 9, 3) := by decide +kernel
theorem dX4_sumByDays_33 : decode cX4_sumByDays 33 = .ok (.aload_n 0, 1) := by decide +kernel
theorem dX4_sumByDays_34 : decode cX4_sumByDays 34 = .ok (.aload 4, 2) := by decide +kernel
theorem dX4_sumByDays_36 : decode cX4_sumByDays 36 = .ok (.invokevirtual 416, 3) := by decide +kernel
theorem dX4_sumByDays_39 : decode cX4_sumByDays 39 = .ok (.iinc 3 1, 3) := by decide +kernel
theorem dX4_sumByDays_42 : decode cX4_sumByDays 42 = .ok (.goto (-24), 3) := by decide +kernel
theorem dX4_sumByDays_45 : decode cX4_sumByDays 45 = .ok (.return_, 1) := by decide +kernel
theorem dX4_addDays_0 : decode cX4_addDays 0 = .ok (.iconst (-1), 1) := by decide +kernel
theorem dX4_addDays_1 : decode cX4_addDays 1 = .ok (.istore_n 2, 1) := by decide +kernel
theorem dX4_addDays_2 : decode cX4_addDays 2 = .ok (.iconst (-1), 1) := by decide +kernel
theorem dX4_addDays_3 : decode cX4_addDays 3 = .ok (.istore_n 3, 1) := by decide +kernel
theorem dX4_addDays_4 : decode cX4_addDays 4 = .ok (.iconst 0, 1) := by decide +kernel
theorem dX4_addDays_5 : decode cX4_addDays 5 = .ok (.istore 4, 2) := by decide +kernel
theorem dX4_addDays_7 : decode cX4_addDays 7 = .ok (.iload 4, 2) := by decide +kernel
theorem dX4_addDays_9 : decode cX4_addDays 9 = .ok (.aload_n 0, 1) := by decide +kernel
theorem dX4_addDays_10 : decode cX4_addDays 10 = .ok (.getfield 48, 3) := by decide +kernel
theorem dX4_addDays_13 : decode cX4_addDays 13 = .ok (.if_icmp .gt 71, 3) := by decide +kernel
theorem dX4_addDays_16 : decode cX4_addDays 16 = .ok (.iload 4, 2) := by decide +kernel
theorem dX4_addDays_18 : decode cX4_addDays 18 = .ok (.bipush 90, 2) := by decide +kernel
theorem dX4_addDays_20 : decode cX4_addDays 20 = .ok (.idiv, 1) := by decide +kernel
theorem dX4_addDays_21 : decode cX4_addDays 21 = .ok (.istore 5, 2) := by decide +kernel
theorem dX4_addDays_23 : decode cX4_addDays 23 = .ok (.iload 5, 2) := by decide +kernel
theorem dX4_addDays_25 : decode cX4_addDays 25 = .ok (.iload_n 2, 1) := by decide +kernel
theorem dX4_addDays_26 : decode cX4_addDays 26 = .ok (.if_icmp .eq 52, 3) := by decide +kernel
theorem dX4_addDays_29 : decode cX4_addDays 29 = .ok (.aload_n 1, 1) := by decide +kernel
theorem dX4_addDays_30 : decode cX4_addDays 30 = .ok (.getfield 118, 3) := by decide +kernel
theorem dX4_addDays_33 : decode cX4_addDays 33 = .ok (.iload_n 3, 1) := by decide +kernel
theorem dX4_addDays_34 : decode cX4_addDays 34 = .ok (.iload 4, 2) := by decide +kernel
theorem dX4_addDays_36 : decode cX4_addDays 36 = .ok (.invokevirtual 419, 3) := by decide +kernel
theorem dX4_addDays_39 : decode cX4_addDays 39 = .ok (.istore_n 3, 1) := by decide +kernel
theorem dX4_addDays_40 : decode cX4_addDays 40 = .ok (.aload_n 1, 1) := by decide +kernel
theorem dX4_addDays_41 : decode cX4_addDays 41 = .ok (.getfield 118, 3) := by decide +kernel
theorem dX4_addDays_44 : decode cX4_addDays 44 = .ok (.iload_n 3, 1) := by decide +kernel
theorem dX4_addDays_45 : decode cX4_addDays 45 = .ok (.invokevirtual 422, 3) := by decide +kernel
theorem dX4_addDays_48 : decode cX4_addDays 48 = .ok (.iconst 1, 1) := by decide +kernel
theorem dX4_addDays_49 : decode cX4_addDays 49 = .ok (.if_icmp .ne 29, 3) := by decide +kernel
theorem dX4_addDays_52 : decode cX4_addDays 52 = .ok (.aload_n 0, 1) := by decide +kernel
theorem dX4_addDays_53 : decode cX4_addDays 53 = .ok (.getfield 34, 3) := by decide +kernel
theorem dX4_addDays_56 : decode cX4_addDays 56 = .ok (.aload_n 1, 1) := by decide +kernel
theorem dX4_addDays_57 : decode cX4_addDays 57 = .ok (.getfield 182, 3) := by decide +kernel
theorem dX4_addDays_60 : decode cX4_addDays 60 = .ok (.iload 4, 2) := by decide +kernel
theorem dX4_addDays_62 : decode cX4_addDays 62 = .ok (.invokevirtual 188, 3) := by decide +kernel
theorem dX4_addDays_65 : decode cX4_addDays 65 = .ok (.aload_n 1, 1) := by decide +kernel
theorem dX4_addDays_66 : decode cX4_addDays 66 = .ok (.getfield 145, 3) := by decide +kernel
theorem dX4_addDays_69 : decode cX4_addDays 69 = .ok (.invokestatic 289, 3) := by decide +kernel
theorem dX4_addDays_72 : decode cX4_addDays 72 = .ok (.invokestatic 211, 3) := by decide +kernel
theorem dX4_addDays_75 : decode cX4_addDays 75 = .ok (.iload 5, 2) := by decide +kernel
theorem dX4_addDays_77 : decode cX4_addDays 77 = .ok (.istore_n 2, 1) := by decide +kernel
theorem dX4_addDays_78 : decode cX4_addDays 78 = .ok (.iinc 4 1, 3) := by decide +kernel
theorem dX4_addDays_81 : decode cX4_addDays 81 = .ok (.goto (-74), 3) := by decide +kernel
theorem dX4_addDays_84 : decode cX4_addDays 84 = .ok (.return_, 1) := by decide +kernel
theorem dX4_beginWithPaid_0 : decode cX4_beginWithPaid 0 = .ok (.iconst 0, 1) := by decide +kernel
theorem dX4_beginWithPaid_1 : decode cX4_beginWithPaid 1 = .ok (.istore_n 2, 1) := by decide +kernel
theorem dX4_beginWithPaid_2 : decode cX4_beginWithPaid 2 = .ok (.iload_n 2, 1) := by decide +kernel
theorem dX4_beginWithPaid_3 : decode cX4_beginWithPaid 3 = .ok (.aload_n 1, 1) := by decide +kernel
theorem dX4_beginWithPaid_4 : decode cX4_beginWithPaid 4 = .ok (.arraylength, 1) := by decide +kernel
theorem dX4_beginWithPaid_5 : decode cX4_beginWithPaid 5 = .ok (.if_icmp .ge 21, 3) := by decide +kernel
theorem dX4_beginWithPaid_8 : decode cX4_beginWithPaid 8 = .ok (.aload_n 1, 1) := by decide +kernel
theorem dX4_beginWithPaid_9 : decode cX4_beginWithPaid 9 = .ok (.iload_n 2, 1) := by decide +kernel
theorem dX4_beginWithPaid_10 : decode cX4_beginWithPaid 10 = .ok (.aload_n 0, 1) := by decide +kernel
theorem dX4_beginWithPaid_11 : decode cX4_beginWithPaid 11 = .ok (.getfield 27, 3) := by decide +kernel
theorem dX4_beginWithPaid_14 : decode cX4_beginWithPaid 14 = .ok (.iload_n 2, 1) := by decide +kernel
theorem dX4_beginWithPaid_15 : decode cX4_beginWithPaid 15 = .ok (.invokestatic 295, 3) := by decide +kernel
theorem dX4_beginWithPaid_18 : decode cX4_beginWithPaid 18 = .ok (.ineg, 1) := by decide +kernel
theorem dX4_beginWithPaid_19 : decode cX4_beginWithPaid 19 = .ok (.iastore, 1) := by decide +kernel
theorem dX4_beginWithPaid_20 : decode cX4_beginWithPaid 20 = .ok (.iinc 2 1, 3) := by decide +kernel
theorem dX4_beginWithPaid_23 : decode cX4_beginWithPaid 23 = .ok (.goto (-21), 3) := by decide +kernel
theorem dX4_beginWithPaid_26 : decode cX4_beginWithPaid 26 = .ok (.return_, 1) := by decide +kernel
theorem dX4_areTaxesSound_0 : decode cX4_areTaxesSound 0 = .ok (.aload_n 0, 1) := by decide +kernel
theorem dX4_areTaxesSound_1 : decode cX4_areTaxesSound 1 = .ok (.invokevirtual 292, 3) := by decide +kernel
theorem dX4_areTaxesSound_4 : decode cX4_areTaxesSound 4 = .ok (.aload_n 0, 1) := by decide +kernel
theorem dX4_areTaxesSound_5 : decode cX4_areTaxesSound 5 = .ok (.invokevirtual 299, 3) := by decide +kernel
theorem dX4_areTaxesSound_8 : decode cX4_areTaxesSound 8 = .ok (.iconst 0, 1) := by decide +kernel
theorem dX4_areTaxesSound_9 : decode cX4_areTaxesSound 9 = .ok (.istore_n 1, 1) := by decide +kernel
theorem dX4_areTaxesSound_10 : decode cX4_areTaxesSound 10 = .ok (.iload_n 1, 1) := by decide +kernel
theorem dX4_areTaxesSound_11 : decode cX4_areTaxesSound 11 = .ok (.aload_n 0, 1) := by decide +kernel
theorem dX4_areTaxesSound_12 : decode cX4_areTaxesSound 12 = .ok (.getfield 37, 3) := by decide +kernel
theorem dX4_areTaxesSound_15 : decode cX4_areTaxesSound 15 = .ok (.if_icmp .ge 30, 3) := by decide +kernel
theorem dX4_areTaxesSound_18 : decode cX4_areTaxesSound 18 = .ok (.aload_n 0, 1) := by decide +kernel
theorem dX4_areTaxesSound_19 : decode cX4_areTaxesSound 19 = .ok (.getfield 31, 3) := by decide +kernel
theorem dX4_areTaxesSound_22 : decode cX4_areTaxesSound 22 = .ok (.iload_n 1, 1) := by decide +kernel
theorem dX4_areTaxesSound_23 : decode cX4_areTaxesSound 23 = .ok (.invokestatic 295, 3) := by decide +kernel
theorem dX4_areTaxesSound_26 : decode cX4_areTaxesSound 26 = .ok (.aload_n 0, 1) := by decide +kernel
theorem dX4_areTaxesSound_27 : decode cX4_areTaxesSound 27 = .ok (.getfield 34, 3) := by decide +kernel
theorem dX4_areTaxesSound_30 : decode cX4_areTaxesSound 30 = .ok (.iload_n 1, 1) := by decide +kernel
theorem dX4_areTaxesSound_31 : decode cX4_areTaxesSound 31 = .ok (.invokestatic 295, 3) := by decide +kernel
theorem dX4_areTaxesSound_34 : decode cX4_areTaxesSound 34 = .ok (.if_icmp .eq 5, 3) := by decide +kernel
theorem dX4_areTaxesSound_37 : decode cX4_areTaxesSound 37 = .ok (.iconst 0, 1) := by decide +kernel
theorem dX4_areTaxesSound_38 : decode cX4_areTaxesSound 38 = .ok (.ireturn, 1) := by decide +kernel
theorem dX4_areTaxesSound_39 : decode cX4_areTaxesSound 39 = .ok (.iinc 1 1, 3) := by decide +kernel
theorem dX4_areTaxesSound_42 : decode cX4_areTaxesSound 42 = .ok (.goto (-32), 3) := by decide +kernel
theorem dX4_areTaxesSound_45 : decode cX4_areTaxesSound 45 = .ok (.iconst 1, 1) := by decide +kernel
theorem dX4_areTaxesSound_46 : decode cX4_areTaxesSound 46 = .ok (.ireturn, 1) := by decide +kernel
theorem dX4_isLender_0 : decode cX4_isLender 0 = .ok (.iload_n 0, 1) := by decide +kernel
theorem dX4_isLender_1 : decode cX4_isLender 1 = .ok (.bipush 97, 2) := by decide +kernel
theorem dX4_isLender_3 : decode cX4_isLender 3 = .ok (.if_icmp .lt 13, 3) := by decide +kernel
theorem dX4_isLender_6 : decode cX4_isLender 6 = .ok (.iload_n 0, 1) := by decide +kernel
theorem dX4_isLender_7 : decode cX4_isLender 7 = .ok (.bipush 103, 2) := by decide +kernel
theorem dX4_isLender_9 : decode cX4_isLender 9 = .ok (.if_icmp .ge 7, 3) := by decide +kernel
theorem dX4_isLender_12 : decode cX4_isLender 12 = .ok (.iconst 1, 1) := by decide +kernel
theorem dX4_isLender_13 : decode cX4_isLender 13 = .ok (.goto 4, 3) := by decide +kernel
theorem dX4_isLender_16 : decode cX4_isLender 16 = .ok (.iconst 0, 1) := by decide +kernel
theorem dX4_isLender_17 : decode cX4_isLender 17 = .ok (.ireturn, 1) := by decide +kernel
theorem dX4_entry_0 : decode cX4_entry 0 = .ok (.iload_n 1, 1) := by decide +kernel
theorem dX4_entry_1 : decode cX4_entry 1 = .ok (.ifCond .lt 15, 3) := by decide +kernel
theorem dX4_entry_4 : decode cX4_entry 4 = .ok (.iload_n 1, 1) := by decide +kernel
theorem dX4_entry_5 : decode cX4_entry 5 = .ok (.aload_n 0, 1) := by decide +kernel
theorem dX4_entry_6 : decode cX4_entry 6 = .ok (.arraylength, 1) := by decide +kernel
theorem dX4_entry_7 : decode cX4_entry 7 = .ok (.if_icmp .ge 9, 3) := by decide +kernel
theorem dX4_entry_10 : decode cX4_entry 10 = .ok (.aload_n 0, 1) := by decide +kernel
theorem dX4_entry_11 : decode cX4_entry 11 = .ok (.iload_n 1, 1) := by decide +kernel
theorem dX4_entry_12 : decode cX4_entry 12 = .ok (.iaload, 1) := by decide +kernel
theorem dX4_entry_13 : decode cX4_entry 13 = .ok (.goto 4, 3) := by decide +kernel
theorem dX4_entry_16 : decode cX4_entry 16 = .ok (.iconst 0, 1) := by decide +kernel
theorem dX4_entry_17 : decode cX4_entry 17 = .ok (.ireturn, 1) := by decide +kernel
theorem dX4_addTo_0 : decode cX4_addTo 0 = .ok (.iload_n 1, 1) := by decide +kernel
theorem dX4_addTo_1 : decode cX4_addTo 1 = .ok (.ifCond .lt 16, 3) := by decide +kernel
theorem dX4_addTo_4 : decode cX4_addTo 4 = .ok (.iload_n 1, 1) := by decide +kernel
theorem dX4_addTo_5 : decode cX4_addTo 5 = .ok (.aload_n 0, 1) := by decide +kernel
theorem dX4_addTo_6 : decode cX4_addTo 6 = .ok (.arraylength, 1) := by decide +kernel
theorem dX4_addTo_7 : decode cX4_addTo 7 = .ok (.if_icmp .ge 10, 3) := by decide +kernel
theorem dX4_addTo_10 : decode cX4_addTo 10 = .ok (.aload_n 0, 1) := by decide +kernel
theorem dX4_addTo_11 : decode cX4_addTo 11 = .ok (.iload_n 1, 1) := by decide +kernel
theorem dX4_addTo_12 : decode cX4_addTo 12 = .ok (.dup2, 1) := by decide +kernel
theorem dX4_addTo_13 : decode cX4_addTo 13 = .ok (.iaload, 1) := by decide +kernel
theorem dX4_addTo_14 : decode cX4_addTo 14 = .ok (.iload_n 2, 1) := by decide +kernel
theorem dX4_addTo_15 : decode cX4_addTo 15 = .ok (.iadd, 1) := by decide +kernel
theorem dX4_addTo_16 : decode cX4_addTo 16 = .ok (.iastore, 1) := by decide +kernel
theorem dX4_addTo_17 : decode cX4_addTo 17 = .ok (.return_, 1) := by decide +kernel
theorem dX5_init_0 : decode cX5_init 0 = .ok (.aload_n 0, 1) := by decide +kernel
theorem dX5_init_1 : decode cX5_init 1 = .ok (.invokespecial 1, 3) := by decide +kernel
theorem dX5_init_4 : decode cX5_init 4 = .ok (.aload_n 0, 1) := by decide +kernel
theorem dX5_init_5 : decode cX5_init 5 = .ok (.bipush 12, 2) := by decide +kernel
theorem dX5_init_7 : decode cX5_init 7 = .ok (.newarray .int, 2) := by decide +kernel
theorem dX5_init_9 : decode cX5_init 9 = .ok (.putfield 7, 3) := by decide +kernel
theorem dX5_init_12 : decode cX5_init 12 = .ok (.aload_n 0, 1) := by decide +kernel
theorem dX5_init_13 : decode cX5_init 13 = .ok (.bipush 15, 2) := by decide +kernel
theorem dX5_init_15 : decode cX5_init 15 = .ok (.newarray .int, 2) := by decide +kernel
theorem dX5_init_17 : decode cX5_init 17 = .ok (.putfield 13, 3) := by decide +kernel
theorem dX5_init_20 : decode cX5_init 20 = .ok (.aload_n 0, 1) := by decide +kernel
theorem dX5_init_21 : decode cX5_init 21 = .ok (.bipush 90, 2) := by decide +kernel
theorem dX5_init_23 : decode cX5_init 23 = .ok (.newarray .int, 2) := by decide +kernel
theorem dX5_init_25 : decode cX5_init 25 = .ok (.putfield 16, 3) := by decide +kernel
theorem dX5_init_28 : decode cX5_init 28 = .ok (.aload_n 0, 1) := by decide +kernel
theorem dX5_init_29 : decode cX5_init 29 = .ok (.bipush 15, 2) := by decide +kernel
theorem dX5_init_31 : decode cX5_init 31 = .ok (.newarray .boolean, 2) := by decide +kernel
theorem dX5_init_33 : decode cX5_init 33 = .ok (.putfield 19, 3) := by decide +kernel
theorem dX5_init_36 : decode cX5_init 36 = .ok (.aload_n 0, 1) := by decide +kernel
theorem dX5_init_37 : decode cX5_init 37 = .ok (.bipush 15, 2) := by decide +kernel
theorem dX5_init_39 : decode cX5_init 39 = .ok (.newarray .boolean, 2) := by decide +kernel
theorem dX5_init_41 : decode cX5_init 41 = .ok (.putfield 23, 3) := by decide +kernel
theorem dX5_init_44 : decode cX5_init 44 = .ok (.aload_n 0, 1) := by decide +kernel
theorem dX5_init_45 : decode cX5_init 45 = .ok (.bipush 80, 2) := by decide +kernel
theorem dX5_init_47 : decode cX5_init 47 = .ok (.newarray .int, 2) := by decide +kernel
theorem dX5_init_49 : decode cX5_init 49 = .ok (.putfield 26, 3) := by decide +kernel
theorem dX5_init_52 : decode cX5_init 52 = .ok (.aload_n 0, 1) := by decide +kernel
theorem dX5_init_53 : decode cX5_init 53 = .ok (.bipush 80, 2) := by decide +kernel
theorem dX5_init_55 : decode cX5_init 55 = .ok (.newarray .int, 2) := by decide +kernel
theorem dX5_init_57 : decode cX5_init 57 = .ok (.putfield 29, 3) := by decide +kernel
theorem dX5_init_60 : decode cX5_init 60 = .ok (.aload_n 0, 1) := by decide +kernel
theorem dX5_init_61 : decode cX5_init 61 = .ok (.bipush 80, 2) := by decide +kernel
theorem dX5_init_63 : decode cX5_init 63 = .ok (.newarray .int, 2) := by decide +kernel
theorem dX5_init_65 : decode cX5_init 65 = .ok (.putfield 32, 3) := by decide +kernel
theorem dX5_init_68 : decode cX5_init 68 = .ok (.aload_n 0, 1) := by decide +kernel
theorem dX5_init_69 : decode cX5_init 69 = .ok (.bipush 120, 2) := by decide +kernel
theorem dX5_init_71 : decode cX5_init 71 = .ok (.newarray .int, 2) := by decide +kernel
theorem dX5_init_73 : decode cX5_init 73 = .ok (.putfield 35, 3) := by decide +kernel
theorem dX5_init_76 : decode cX5_init 76 = .ok (.aload_n 0, 1) := by decide +kernel
theorem dX5_init_77 : decode cX5_init 77 = .ok (.bipush 120, 2) := by decide +kernel
theorem dX5_init_79 : decode cX5_init 79 = .ok (.newarray .int, 2) := by decide +kernel
theorem dX5_init_81 : decode cX5_init 81 = .ok (.putfield 38, 3) := by decide +kernel
theorem dX5_init_84 : decode cX5_init 84 = .ok (.aload_n 0, 1) := by decide +kernel
theorem dX5_init_85 : decode cX5_init 85 = .ok (.bipush 120, 2) := by decide +kernel
theorem dX5_init_87 : decode cX5_init 87 = .ok (.newarray .int, 2) := by decide +kernel
theorem dX5_init_89 : decode cX5_init 89 = .ok (.putfield 41, 3) := by decide +kernel
theorem dX5_init_92 : decode cX5_init 92 = .ok (.aload_n 0, 1) := by decide +kernel
theorem dX5_init_93 : decode cX5_init 93 = .ok (.bipush 120, 2) := by decide +kernel
theorem dX5_init_95 : decode cX5_init 95 = .ok (.newarray .int, 2) := by decide +kernel
theorem dX5_init_97 : decode cX5_init 97 = .ok (.putfield 44, 3) := by decide +kernel
theorem dX5_init_100 : decode cX5_init 100 = .ok (.aload_n 0, 1) := by decide +kernel
theorem dX5_init_101 : decode cX5_init 101 = .ok (.bipush 120, 2) := by decide +kernel
theorem dX5_init_103 : decode cX5_init 103 = .ok (.newarray .int, 2) := by decide +kernel
theorem dX5_init_105 : decode cX5_init 105 = .ok (.putfield 47, 3) := by decide +kernel
theorem dX5_init_108 : decode cX5_init 108 = .ok (.aload_n 0, 1) := by decide +kernel
theorem dX5_init_109 : decode cX5_init 109 = .ok (.bipush 120, 2) := by decide +kernel
theorem dX5_init_111 : decode cX5_init 111 = .ok (.newarray .int, 2) := by decide +kernel
theorem dX5_init_113 : decode cX5_init 113 = .ok (.putfield 50, 3) := by decide +kernel
theorem dX5_init_116 : decode cX5_init 116 = .ok (.aload_n 0, 1) := by decide +kernel
theorem dX5_init_117 : decode cX5_init 117 = .ok (.sipush 520, 3) := by decide +kernel
theorem dX5_init_120 : decode cX5_init 120 = .ok (.newarray .int, 2) := by decide +kernel
theorem dX5_init_122 : decode cX5_init 122 = .ok (.putfield 53, 3) := by decide +kernel
theorem dX5_init_125 : decode cX5_init 125 = .ok (.aload_n 0, 1) := by decide +kernel
theorem dX5_init_126 : decode cX5_init 126 = .ok (.sipush 520, 3) := by decide +kernel
theorem dX5_init_129 : decode cX5_init 129 = .ok (.newarray .int, 2) := by decide +kernel
theorem dX5_init_131 : decode cX5_init 131 = .ok (.putfield 56, 3) := by decide +kernel
theorem dX5_init_134 : decode cX5_init 134 = .ok (.aload_n 0, 1) := by decide +kernel
theorem dX5_init_135 : decode cX5_init 135 = .ok (.sipush 520, 3) := by decide +kernel
theorem dX5_init_138 : decode cX5_init 138 = .ok (.newarray .boolean, 2) := by decide +kernel
theorem dX5_init_140 : decode cX5_init 140 = .ok (.putfield 59, 3) := by decide +kernel
theorem dX5_init_143 : decode cX5_init 143 = .ok (.aload_n 0, 1) := by decide +kernel
theorem dX5_init_144 : decode cX5_init 144 = .ok (.sipush 1100, 3) := by decide +kernel
theorem dX5_init_147 : decode cX5_init 147 = .ok (.newarray .int, 2) := by decide +kernel
theorem dX5_init_149 : decode cX5_init 149 = .ok (.putfield 62, 3) := by decide +kernel
theorem dX5_init_152 : decode cX5_init 152 = .ok (.aload_n 0, 1) := by decide +kernel
theorem dX5_init_153 : decode cX5_init 153 = .ok (.sipush 1100, 3) := by decide +kernel
theorem dX5_init_156 : decode cX5_init 156 = .ok (.newarray .int, 2) := by decide +kernel
theorem dX5_init_158 : decode cX5_init 158 = .ok (.putfield 65, 3) := by decide +kernel
theorem dX5_init_161 : decode cX5_init 161 = .ok (.aload_n 0, 1) := by decide +kernel
theorem dX5_init_162 : decode cX5_init 162 = .ok (.sipush 1100, 3) := by decide +kernel
theorem dX5_init_165 : decode cX5_init 165 = .ok (.newarray .int, 2) := by decide +kernel
theorem dX5_init_167 : decode cX5_init 167 = .ok (.putfield 68, 3) := by decide +kernel
theorem dX5_init_170 : decode cX5_init 170 = .ok (.aload_n 0, 1) := by decide +kernel
theorem dX5_init_171 : decode cX5_init 171 = .ok (.bipush 40, 2) := by decide +kernel
theorem dX5_init_173 : decode cX5_init 173 = .ok (.newarray .int, 2) := by decide +kernel
theorem dX5_init_175 : decode cX5_init 175 = .ok (.putfield 71, 3) := by decide +kernel
theorem dX5_init_178 : decode cX5_init 178 = .ok (.aload_n 0, 1) := by decide +kernel
theorem dX5_init_179 : decode cX5_init 179 = .ok (.bipush 40, 2) := by decide +kernel
theorem dX5_init_181 : decode cX5_init 181 = .ok (.newarray .int, 2) := by decide +kernel
theorem dX5_init_183 : decode cX5_init 183 = .ok (.putfield 74, 3) := by decide +kernel
theorem dX5_init_186 : decode cX5_init 186 = .ok (.aload_n 0, 1) := by decide +kernel
theorem dX5_init_187 : decode cX5_init 187 = .ok (.bipush 40, 2) := by decide +kernel
theorem dX5_init_189 : decode cX5_init 189 = .ok (.newarray .boolean, 2) := by decide +kernel
theorem dX5_init_191 : decode cX5_init 191 = .ok (.putfield 77, 3) := by decide +kernel
theorem dX5_init_194 : decode cX5_init 194 = .ok (.return_, 1) := by decide +kernel
theorem dX5_thrown_0 : decode cX5_thrown 0 = .ok (.aload_n 0, 1) := by decide +kernel
theorem dX5_thrown_1 : decode cX5_thrown 1 = .ok (.getfield 80, 3) := by decide +kernel
theorem dX5_thrown_4 : decode cX5_thrown 4 = .ok (.ireturn, 1) := by decide +kernel
theorem dX5_fails_0 : decode cX5_fails 0 = .ok (.aload_n 0, 1) := by decide +kernel
theorem dX5_fails_1 : decode cX5_fails 1 = .ok (.iload_n 1, 1) := by decide +kernel
theorem dX5_fails_2 : decode cX5_fails 2 = .ok (.putfield 80, 3) := by decide +kernel
theorem dX5_fails_5 : decode cX5_fails 5 = .ok (.iconst 0, 1) := by decide +kernel
theorem dX5_fails_6 : decode cX5_fails 6 = .ok (.ireturn, 1) := by decide +kernel
theorem dX5_in_0 : decode cX5_in 0 = .ok (.iload_n 0, 1) := by decide +kernel
theorem dX5_in_1 : decode cX5_in 1 = .ok (.iload_n 1, 1) := by decide +kernel
theorem dX5_in_2 : decode cX5_in 2 = .ok (.if_icmp .lt 12, 3) := by decide +kernel
theorem dX5_in_5 : decode cX5_in 5 = .ok (.iload_n 0, 1) := by decide +kernel
theorem dX5_in_6 : decode cX5_in 6 = .ok (.iload_n 2, 1) := by decide +kernel
theorem dX5_in_7 : decode cX5_in 7 = .ok (.if_icmp .gt 7, 3) := by decide +kernel
theorem dX5_in_10 : decode cX5_in 10 = .ok (.iconst 1, 1) := by decide +kernel
theorem dX5_in_11 : decode cX5_in 11 = .ok (.goto 4, 3) := by decide +kernel
theorem dX5_in_14 : decode cX5_in 14 = .ok (.iconst 0, 1) := by decide +kernel
theorem dX5_in_15 : decode cX5_in 15 = .ok (.ireturn, 1) := by decide +kernel
theorem dX5_isKeeper_0 : decode cX5_isKeeper 0 = .ok (.iload_n 1, 1) := by decide +kernel
theorem dX5_isKeeper_1 : decode cX5_isKeeper 1 = .ok (.iconst 0, 1) := by decide +kernel
theorem dX5_isKeeper_2 : decode cX5_isKeeper 2 = .ok (.aload_n 0, 1) := by decide +kernel
theorem dX5_isKeeper_3 : decode cX5_isKeeper 3 = .ok (.getfield 84, 3) := by decide +kernel
theorem dX5_isKeeper_6 : decode cX5_isKeeper 6 = .ok (.iconst 1, 1) := by decide +kernel
theorem dX5_isKeeper_7 : decode cX5_isKeeper 7 = .ok (.isub, 1) := by decide +kernel
theorem dX5_isKeeper_8 : decode cX5_isKeeper 8 = .ok (.invokestatic 87, 3) := by decide +kernel
theorem dX5_isKeeper_11 : decode cX5_isKeeper 11 = .ok (.ireturn, 1) := by decide +kernel
theorem dX5_isVehicle_0 : decode cX5_isVehicle 0 = .ok (.iload_n 1, 1) := by decide +kernel
theorem dX5_isVehicle_1 : decode cX5_isVehicle 1 = .ok (.iconst 0, 1) := by decide +kernel
theorem dX5_isVehicle_2 : decode cX5_isVehicle 2 = .ok (.aload_n 0, 1) := by decide +kernel
theorem dX5_isVehicle_3 : decode cX5_isVehicle 3 = .ok (.getfield 91, 3) := by decide +kernel
theorem dX5_isVehicle_6 : decode cX5_isVehicle 6 = .ok (.iconst 1, 1) := by decide +kernel
theorem dX5_isVehicle_7 : decode cX5_isVehicle 7 = .ok (.isub, 1) := by decide +kernel
theorem dX5_isVehicle_8 : decode cX5_isVehicle 8 = .ok (.invokestatic 87, 3) := by decide +kernel
theorem dX5_isVehicle_11 : decode cX5_isVehicle 11 = .ok (.ireturn, 1) := by decide +kernel
theorem dX5_isPlate_0 : decode cX5_isPlate 0 = .ok (.iload_n 1, 1) := by decide +kernel
theorem dX5_isPlate_1 : decode cX5_isPlate 1 = .ok (.iconst 0, 1) := by decide +kernel
theorem dX5_isPlate_2 : decode cX5_isPlate 2 = .ok (.aload_n 0, 1) := by decide +kernel
theorem dX5_isPlate_3 : decode cX5_isPlate 3 = .ok (.getfield 94, 3) := by decide +kernel
theorem dX5_isPlate_6 : decode cX5_isPlate 6 = .ok (.iconst 1, 1) := by decide +kernel
theorem dX5_isPlate_7 : decode cX5_isPlate 7 = .ok (.isub, 1) := by decide +kernel
theorem dX5_isPlate_8 : decode cX5_isPlate 8 = .ok (.invokestatic 87, 3) := by decide +kernel
theorem dX5_isPlate_11 : decode cX5_isPlate 11 = .ok (.ireturn, 1) := by decide +kernel
theorem dX5_isDay_0 : decode cX5_isDay 0 = .ok (.iload_n 1, 1) := by decide +kernel
theorem dX5_isDay_1 : decode cX5_isDay 1 = .ok (.iconst 0, 1) := by decide +kernel
theorem dX5_isDay_2 : decode cX5_isDay 2 = .ok (.aload_n 0, 1) := by decide +kernel
theorem dX5_isDay_3 : decode cX5_isDay 3 = .ok (.getfield 97, 3) := by decide +kernel
theorem dX5_isDay_6 : decode cX5_isDay 6 = .ok (.invokestatic 87, 3) := by decide +kernel
theorem dX5_isDay_9 : decode cX5_isDay 9 = .ok (.ireturn, 1) := by decide +kernel
theorem dX5_isKind_0 : decode cX5_isKind 0 = .ok (.iload_n 0, 1) := by decide +kernel
theorem dX5_isKind_1 : decode cX5_isKind 1 = .ok (.bipush 99, 2) := by decide +kernel
theorem dX5_isKind_3 : decode cX5_isKind 3 = .ok (.if_icmp .eq 21, 3) := by decide +kernel
theorem dX5_isKind_6 : decode cX5_isKind 6 = .ok (.iload_n 0, 1) := by decide +kernel
theorem dX5_isKind_7 : decode cX5_isKind 7 = .ok (.bipush 109, 2) := by decide +kernel
theorem dX5_isKind_9 : decode cX5_isKind 9 = .ok (.if_icmp .eq 15, 3) := by decide +kernel
theorem dX5_isKind_12 : decode cX5_isKind 12 = .ok (.iload_n 0, 1) := by decide +kernel
theorem dX5_isKind_13 : decode cX5_isKind 13 = .ok (.bipush 108, 2) := by decide +kernel
theorem dX5_isKind_15 : decode cX5_isKind 15 = .ok (.if_icmp .eq 9, 3) := by decide +kernel
theorem dX5_isKind_18 : decode cX5_isKind 18 = .ok (.iload_n 0, 1) := by decide +kernel
theorem dX5_isKind_19 : decode cX5_isKind 19 = .ok (.bipush 104, 2) := by decide +kernel
theorem dX5_isKind_21 : decode cX5_isKind 21 = .ok (.if_icmp .ne 7, 3) := by decide +kernel
theorem dX5_isKind_24 : decode cX5_isKind 24 = .ok (.iconst 1, 1) := by decide +kernel
theorem dX5_isKind_25 : decode cX5_isKind 25 = .ok (.goto 4, 3) := by decide +kernel
theorem dX5_isKind_28 : decode cX5_isKind 28 = .ok (.iconst 0, 1) := by decide +kernel
theorem dX5_isKind_29 : decode cX5_isKind 29 = .ok (.ireturn, 1) := by decide +kernel
theorem dX5_tax_0 : decode cX5_tax 0 = .ok (.iload_n 0, 1) := by decide +kernel
theorem dX5_tax_1 : decode cX5_tax 1 = .ok (.bipush 99, 2) := by decide +kernel
theorem dX5_tax_3 : decode cX5_tax 3 = .ok (.if_icmp .ne 8, 3) := by decide +kernel
theorem dX5_tax_6 : decode cX5_tax 6 = .ok (.bipush 60, 2) := by decide +kernel
theorem dX5_tax_8 : decode cX5_tax 8 = .ok (.goto 27, 3) := by decide +kernel
theorem dX5_tax_11 : decode cX5_tax 11 = .ok (.iload_n 0, 1) := by decide +kernel
theorem dX5_tax_12 : decode cX5_tax 12 = .ok (.bipush 109, 2) := by decide +kernel
theorem dX5_tax_14 : decode cX5_tax 14 = .ok (.if_icmp .ne 8, 3) := by decide +kernel
theorem dX5_tax_17 : decode cX5_tax 17 = .ok (.bipush 20, 2) := by decide +kernel
theorem dX5_tax_19 : decode cX5_tax 19 = .ok (.goto 16, 3) := by decide +kernel
theorem dX5_tax_22 : decode cX5_tax 22 = .ok (.iload_n 0, 1) := by decide +kernel
theorem dX5_tax_23 : decode cX5_tax 23 = .ok (.bipush 108, 2) := by decide +kernel
theorem dX5_tax_25 : decode cX5_tax 25 = .ok (.if_icmp .ne 9, 3) := by decide +kernel
theorem dX5_tax_28 : decode cX5_tax 28 = .ok (.sipush 150, 3) := by decide +kernel
theorem dX5_tax_31 : decode cX5_tax 31 = .ok (.goto 4, 3) := by decide +kernel
theorem dX5_tax_34 : decode cX5_tax 34 = .ok (.iconst 0, 1) := by decide +kernel
theorem dX5_tax_35 : decode cX5_tax 35 = .ok (.ireturn, 1) := by decide +kernel
theorem dX5_setsRoad_0 : decode cX5_setsRoad 0 = .ok (.aload_n 0, 1) := by decide +kernel
theorem dX5_setsRoad_1 : decode cX5_setsRoad 1 = .ok (.getfield 100, 3) := by decide +kernel
theorem dX5_setsRoad_4 : decode cX5_setsRoad 4 = .ok (.istore_n 3, 1) := by decide +kernel
theorem dX5_setsRoad_5 : decode cX5_setsRoad 5 = .ok (.iconst 0, 1) := by decide +kernel
theorem dX5_setsRoad_6 : decode cX5_setsRoad 6 = .ok (.istore 4, 2) := by decide +kernel
theorem dX5_setsRoad_8 : decode cX5_setsRoad 8 = .ok (.iload 4, 2) := by decide +kernel
theorem dX5_setsRoad_10 : decode cX5_setsRoad 10 = .ok (.aload_n 0, 1) := by decide +kernel
theorem dX5_setsRoad_11 : decode cX5_setsRoad 11 = .ok (.getfield 100, 3) := by decide +kernel
theorem dX5_setsRoad_14 : decode cX5_setsRoad 14 = .ok (.if_icmp .ge 37, 3) := by decide +kernel
theorem dX5_setsRoad_17 : decode cX5_setsRoad 17 = .ok (.aload_n 0, 1) := by decide +kernel
theorem dX5_setsRoad_18 : decode cX5_setsRoad 18 = .ok (.getfield 53, 3) := by decide +kernel
theorem dX5_setsRoad_21 : decode cX5_setsRoad 21 = .ok (.iload 4, 2) := by decide +kernel
theorem dX5_setsRoad_23 : decode cX5_setsRoad 23 = .ok (.iaload, 1) := by decide +kernel
theorem dX5_setsRoad_24 : decode cX5_setsRoad 24 = .ok (.iload_n 1, 1) := by decide +kernel
theorem dX5_setsRoad_25 : decode cX5_setsRoad 25 = .ok (.if_icmp .ne 20, 3) := by decide +kernel
theorem dX5_setsRoad_28 : decode cX5_setsRoad 28 = .ok (.aload_n 0, 1) := by decide +kernel
theorem dX5_setsRoad_29 : decode cX5_setsRoad 29 = .ok (.getfield 56, 3) := by decide +kernel
theorem dX5_setsRoad_32 : decode cX5_setsRoad 32 = .ok (.iload 4, 2) := by decide +kernel
theorem dX5_setsRoad_34 : decode cX5_setsRoad 34 = .ok (.iaload, 1) := by decide +kernel
theorem dX5_setsRoad_35 : decode cX5_setsRoad 35 = .ok (.aload_n 0, 1) := by decide +kernel
theorem dX5_setsRoad_36 : decode cX5_setsRoad 36 = .ok (.getfield 97, 3) := by decide +kernel
theorem dX5_setsRoad_39 : decode cX5_setsRoad 39 = .ok (.if_icmp .ne 6, 3) := by decide +kernel
theorem dX5_setsRoad_42 : decode cX5_setsRoad 42 = .ok (.iload 4, 2) := by decide +kernel
theorem dX5_setsRoad_44 : decode cX5_setsRoad 44 = .ok (.istore_n 3, 1) := by decide +kernel
theorem dX5_setsRoad_45 : decode cX5_setsRoad 45 = .ok (.iinc 4 1, 3) := by decide +kernel
theorem dX5_setsRoad_48 : decode cX5_setsRoad 48 = .ok (.goto (-40), 3) := by decide +kernel
theorem dX5_setsRoad_51 : decode cX5_setsRoad 51 = .ok (.aload_n 0, 1) := by decide +kernel
theorem dX5_setsRoad_52 : decode cX5_setsRoad 52 = .ok (.getfield 53, 3) := by decide +kernel
theorem dX5_setsRoad_55 : decode cX5_setsRoad 55 = .ok (.iload_n 3, 1) := by decide +kernel
theorem dX5_setsRoad_56 : decode cX5_setsRoad 56 = .ok (.iload_n 1, 1) := by decide +kernel
theorem dX5_setsRoad_57 : decode cX5_setsRoad 57 = .ok (.iastore, 1) := by decide +kernel
theorem dX5_setsRoad_58 : decode cX5_setsRoad 58 = .ok (.aload_n 0, 1) := by decide +kernel
theorem dX5_setsRoad_59 : decode cX5_setsRoad 59 = .ok (.getfield 56, 3) := by decide +kernel
theorem dX5_setsRoad_62 : decode cX5_setsRoad 62 = .ok (.iload_n 3, 1) := by decide +kernel
theorem dX5_setsRoad_63 : decode cX5_setsRoad 63 = .ok (.aload_n 0, 1) := by decide +kernel
theorem dX5_setsRoad_64 : decode cX5_setsRoad 64 = .ok (.getfield 97, 3) := by decide +kernel
theorem dX5_setsRoad_67 : decode cX5_setsRoad 67 = .ok (.iastore, 1) := by decide +kernel
theorem dX5_setsRoad_68 : decode cX5_setsRoad 68 = .ok (.aload_n 0, 1) := by decide +kernel
theorem dX5_setsRoad_69 : decode cX5_setsRoad 69 = .ok (.getfield 59, 3) := by decide +kernel
theorem dX5_setsRoad_72 : decode cX5_setsRoad 72 = .ok (.iload_n 3, 1) := by decide +kernel
theorem dX5_setsRoad_73 : decode cX5_setsRoad 73 = .ok (.iload_n 2, 1) := by decide +kernel
theorem dX5_setsRoad_74 : decode cX5_setsRoad 74 = .ok (.bastore, 1) := by decide +kernel
theorem dX5_setsRoad_75 : decode cX5_setsRoad 75 = .ok (.aload_n 0, 1) := by decide +kernel
theorem dX5_setsRoad_76 : decode cX5_setsRoad 76 = .ok (.dup, 1) := by decide +kernel
theorem dX5_setsRoad_77 : decode cX5_setsRoad 77 = .ok (.getfield 100, 3) := by decide +kernel
theorem dX5_setsRoad_80 : decode cX5_setsRoad 80 = .ok (.iload_n 3, 1) := by decide +kernel
theorem dX5_setsRoad_81 : decode cX5_setsRoad 81 = .ok (.aload_n 0, 1) := by decide +kernel
theorem dX5_setsRoad_82 : decode cX5_setsRoad 82 = .ok (.getfield 100, 3) := by decide +kernel
theorem dX5_setsRoad_85 : decode cX5_setsRoad 85 = .ok (.if_icmp .ne 7, 3) := by decide +kernel
theorem dX5_setsRoad_88 : decode cX5_setsRoad 88 = .ok (.iconst 1, 1) := by decide +kernel
theorem dX5_setsRoad_89 : decode cX5_setsRoad 89 = .ok (.goto 4, 3) := by decide +kernel
theorem dX5_setsRoad_92 : decode cX5_setsRoad 92 = .ok (.iconst 0, 1) := by decide +kernel
theorem dX5_setsRoad_93 : decode cX5_setsRoad 93 = .ok (.iadd, 1) := by decide +kernel
theorem dX5_setsRoad_94 : decode cX5_setsRoad 94 = .ok (.putfield 100, 3) := by decide +kernel
theorem dX5_setsRoad_97 : decode cX5_setsRoad 97 = .ok (.return_, 1) := by decide +kernel
theorem dX5_road_0 : decode cX5_road 0 = .ok (.iconst 0, 1) := by decide +kernel
theorem dX5_road_1 : decode cX5_road 1 = .ok (.istore_n 3, 1) := by decide +kernel
theorem dX5_road_2 : decode cX5_road 2 = .ok (.iconst 0, 1) := by decide +kernel
theorem dX5_road_3 : decode cX5_road 3 = .ok (.istore 4, 2) := by decide +kernel
theorem dX5_road_5 : decode cX5_road 5 = .ok (.iload 4, 2) := by decide +kernel
theorem dX5_road_7 : decode cX5_road 7 = .ok (.aload_n 0, 1) := by decide +kernel
theorem dX5_road_8 : decode cX5_road 8 = .ok (.getfield 100, 3) := by decide +kernel
theorem dX5_road_11 : decode cX5_road 11 = .ok (.if_icmp .ge 39, 3) := by decide +kernel
theorem dX5_road_14 : decode cX5_road 14 = .ok (.aload_n 0, 1) := by decide +kernel
theorem dX5_road_15 : decode cX5_road 15 = .ok (.getfield 53, 3) := by decide +kernel
theorem dX5_road_18 : decode cX5_road 18 = .ok (.iload 4, 2) := by decide +kernel
theorem dX5_road_20 : decode cX5_road 20 = .ok (.iaload, 1) := by decide +kernel
theorem dX5_road_21 : decode cX5_road 21 = .ok (.iload_n 1, 1) := by decide +kernel
theorem dX5_road_22 : decode cX5_road 22 = .ok (.if_icmp .ne 22, 3) := by decide +kernel
theorem dX5_road_25 : decode cX5_road 25 = .ok (.aload_n 0, 1) := by decide +kernel
theorem dX5_road_26 : decode cX5_road 26 = .ok (.getfield 56, 3) := by decide +kernel
theorem dX5_road_29 : decode cX5_road 29 = .ok (.iload 4, 2) := by decide +kernel
theorem dX5_road_31 : decode cX5_road 31 = .ok (.iaload, 1) := by decide +kernel
theorem dX5_road_32 : decode cX5_road 32 = .ok (.iload_n 2, 1) := by decide +kernel
theorem dX5_road_33 : decode cX5_road 33 = .ok (.if_icmp .gt 11, 3) := by decide +kernel
theorem dX5_road_36 : decode cX5_road 36 = .ok (.aload_n 0, 1) := by decide +kernel
theorem dX5_road_37 : decode cX5_road 37 = .ok (.getfield 59, 3) := by decide +kernel
theorem dX5_road_40 : decode cX5_road 40 = .ok (.iload 4, 2) := by decide +kernel
theorem dX5_road_42 : decode cX5_road 42 = .ok (.baload, 1) := by decide +kernel
theorem dX5_road_43 : decode cX5_road 43 = .ok (.istore_n 3, 1) := by decide +kernel
theorem dX5_road_44 : decode cX5_road 44 = .ok (.iinc 4 1, 3) := by decide +kernel
theorem dX5_road_47 : decode cX5_road 47 = .ok (.goto (-42), 3) := by decide +kernel
theorem dX5_road_50 : decode cX5_road 50 = .ok (.iload_n 3, 1) := by decide +kernel
theorem dX5_road_51 : decode cX5_road 51 = .ok (.ireturn, 1) := by decide +kernel
theorem dX5_setsPlate_0 : decode cX5_setsPlate 0 = .ok (.aload_n 0, 1) := by decide +kernel
theorem dX5_setsPlate_1 : decode cX5_setsPlate 1 = .ok (.getfield 103, 3) := by decide +kernel
theorem dX5_setsPlate_4 : decode cX5_setsPlate 4 = .ok (.istore_n 3, 1) := by decide +kernel
theorem dX5_setsPlate_5 : decode cX5_setsPlate 5 = .ok (.iconst 0, 1) := by decide +kernel
theorem dX5_setsPlate_6 : decode cX5_setsPlate 6 = .ok (.istore 4, 2) := by decide +kernel
theorem dX5_setsPlate_8 : decode cX5_setsPlate 8 = .ok (.iload 4, 2) := by decide +kernel
theorem dX5_setsPlate_10 : decode cX5_setsPlate 10 = .ok (.aload_n 0, 1) := by decide +kernel
theorem dX5_setsPlate_11 : decode cX5_setsPlate 11 = .ok (.getfield 103, 3) := by decide +kernel
theorem dX5_setsPlate_14 : decode cX5_setsPlate 14 = .ok (.if_icmp .ge 37, 3) := by decide +kernel
theorem dX5_setsPlate_17 : decode cX5_setsPlate 17 = .ok (.aload_n 0, 1) := by decide +kernel
theorem dX5_setsPlate_18 : decode cX5_setsPlate 18 = .ok (.getfield 62, 3) := by decide +kernel
theorem dX5_setsPlate_21 : decode cX5_setsPlate 21 = .ok (.iload 4, 2) := by decide +kernel
theorem dX5_setsPlate_23 : decode cX5_setsPlate 23 = .ok (.iaload, 1) := by decide +kernel
theorem dX5_setsPlate_24 : decode cX5_setsPlate 24 = .ok (.iload_n 1, 1) := by decide +kernel
theorem dX5_setsPlate_25 : decode cX5_setsPlate 25 = .ok (.if_icmp .ne 20, 3) := by decide +kernel
theorem dX5_setsPlate_28 : decode cX5_setsPlate 28 = .ok (.aload_n 0, 1) := by decide +kernel
theorem dX5_setsPlate_29 : decode cX5_setsPlate 29 = .ok (.getfield 65, 3) := by decide +kernel
theorem dX5_setsPlate_32 : decode cX5_setsPlate 32 = .ok (.iload 4, 2) := by decide +kernel
theorem dX5_setsPlate_34 : decode cX5_setsPlate 34 = .ok (.iaload, 1) := by decide +kernel
theorem dX5_setsPlate_35 : decode cX5_setsPlate 35 = .ok (.aload_n 0, 1) := by decide +kernel
theorem dX5_setsPlate_36 : decode cX5_setsPlate 36 = .ok (.getfield 97, 3) := by decide +kernel
theorem dX5_setsPlate_39 : decode cX5_setsPlate 39 = .ok (.if_icmp .ne 6, 3) := by decide +kernel
theorem dX5_setsPlate_42 : decode cX5_setsPlate 42 = .ok (.iload 4, 2) := by decide +kernel
theorem dX5_setsPlate_44 : decode cX5_setsPlate 44 = .ok (.istore_n 3, 1) := by decide +kernel
theorem dX5_setsPlate_45 : decode cX5_setsPlate 45 = .ok (.iinc 4 1, 3) := by decide +kernel
theorem dX5_setsPlate_48 : decode cX5_setsPlate 48 = .ok (.goto (-40), 3) := by decide +kernel
theorem dX5_setsPlate_51 : decode cX5_setsPlate 51 = .ok (.aload_n 0, 1) := by decide +kernel
theorem dX5_setsPlate_52 : decode cX5_setsPlate 52 = .ok (.getfield 62, 3) := by decide +kernel
theorem dX5_setsPlate_55 : decode cX5_setsPlate 55 = .ok (.iload_n 3, 1) := by decide +kernel
theorem dX5_setsPlate_56 : decode cX5_setsPlate 56 = .ok (.iload_n 1, 1) := by decide +kernel
theorem dX5_setsPlate_57 : decode cX5_setsPlate 57 = .ok (.iastore, 1) := by decide +kernel
theorem dX5_setsPlate_58 : decode cX5_setsPlate 58 = .ok (.aload_n 0, 1) := by decide +kernel
theorem dX5_setsPlate_59 : decode cX5_setsPlate 59 = .ok (.getfield 65, 3) := by decide +kernel
theorem dX5_setsPlate_62 : decode cX5_setsPlate 62 = .ok (.iload_n 3, 1) := by decide +kernel
theorem dX5_setsPlate_63 : decode cX5_setsPlate 63 = .ok (.aload_n 0, 1) := by decide +kernel
theorem dX5_setsPlate_64 : decode cX5_setsPlate 64 = .ok (.getfield 97, 3) := by decide +kernel
theorem dX5_setsPlate_67 : decode cX5_setsPlate 67 = .ok (.iastore, 1) := by decide +kernel
theorem dX5_setsPlate_68 : decode cX5_setsPlate 68 = .ok (.aload_n 0, 1) := by decide +kernel
theorem dX5_setsPlate_69 : decode cX5_setsPlate 69 = .ok (.getfield 68, 3) := by decide +kernel
theorem dX5_setsPlate_72 : decode cX5_setsPlate 72 = .ok (.iload_n 3, 1) := by decide +kernel
theorem dX5_setsPlate_73 : decode cX5_setsPlate 73 = .ok (.iload_n 2, 1) := by decide +kernel
theorem dX5_setsPlate_74 : decode cX5_setsPlate 74 = .ok (.iastore, 1) := by decide +kernel
theorem dX5_setsPlate_75 : decode cX5_setsPlate 75 = .ok (.aload_n 0, 1) := by decide +kernel
theorem dX5_setsPlate_76 : decode cX5_setsPlate 76 = .ok (.dup, 1) := by decide +kernel
theorem dX5_setsPlate_77 : decode cX5_setsPlate 77 = .ok (.getfield 103, 3) := by decide +kernel
theorem dX5_setsPlate_80 : decode cX5_setsPlate 80 = .ok (.iload_n 3, 1) := by decide +kernel
theorem dX5_setsPlate_81 : decode cX5_setsPlate 81 = .ok (.aload_n 0, 1) := by decide +kernel
theorem dX5_setsPlate_82 : decode cX5_setsPlate 82 = .ok (.getfield 103, 3) := by decide +kernel
theorem dX5_setsPlate_85 : decode cX5_setsPlate 85 = .ok (.if_icmp .ne 7, 3) := by decide +kernel
theorem dX5_setsPlate_88 : decode cX5_setsPlate 88 = .ok (.iconst 1, 1) := by decide +kernel
theorem dX5_setsPlate_89 : decode cX5_setsPlate 89 = .ok (.goto 4, 3) := by decide +kernel
theorem dX5_setsPlate_92 : decode cX5_setsPlate 92 = .ok (.iconst 0, 1) := by decide +kernel
theorem dX5_setsPlate_93 : decode cX5_setsPlate 93 = .ok (.iadd, 1) := by decide +kernel
theorem dX5_setsPlate_94 : decode cX5_setsPlate 94 = .ok (.putfield 103, 3) := by decide +kernel
theorem dX5_setsPlate_97 : decode cX5_setsPlate 97 = .ok (.return_, 1) := by decide +kernel
theorem dX5_plate_0 : decode cX5_plate 0 = .ok (.iconst (-1), 1) := by decide +kernel
theorem dX5_plate_1 : decode cX5_plate 1 = .ok (.istore_n 3, 1) := by decide +kernel
theorem dX5_plate_2 : decode cX5_plate 2 = .ok (.iconst 0, 1) := by decide +kernel
theorem dX5_plate_3 : decode cX5_plate 3 = .ok (.istore 4, 2) := by decide +kernel
theorem dX5_plate_5 : decode cX5_plate 5 = .ok (.iload 4, 2) := by decide +kernel
theorem dX5_plate_7 : decode cX5_plate 7 = .ok (.aload_n 0, 1) := by decide +kernel
theorem dX5_plate_8 : decode cX5_plate 8 = .ok (.getfield 103, 3) := by decide +kernel
theorem dX5_plate_11 : decode cX5_plate 11 = .ok (.if_icmp .ge 39, 3) := by decide +kernel
theorem dX5_plate_14 : decode cX5_plate 14 = .ok (.aload_n 0, 1) := by decide +kernel
theorem dX5_plate_15 : decode cX5_plate 15 = .ok (.getfield 62, 3) := by decide +kernel
theorem dX5_plate_18 : decode cX5_plate 18 = .ok (.iload 4, 2) := by decide +kernel
theorem dX5_plate_20 : decode cX5_plate 20 = .ok (.iaload, 1) := by decide +kernel
theorem dX5_plate_21 : decode cX5_plate 21 = .ok (.iload_n 1, 1) := by decide +kernel
theorem dX5_plate_22 : decode cX5_plate 22 = .ok (.if_icmp .ne 22, 3) := by decide +kernel
theorem dX5_plate_25 : decode cX5_plate 25 = .ok (.aload_n 0, 1) := by decide +kernel
theorem dX5_plate_26 : decode cX5_plate 26 = .ok (.getfield 65, 3) := by decide +kernel
theorem dX5_plate_29 : decode cX5_plate 29 = .ok (.iload 4, 2) := by decide +kernel
theorem dX5_plate_31 : decode cX5_plate 31 = .ok (.iaload, 1) := by decide +kernel
theorem dX5_plate_32 : decode cX5_plate 32 = .ok (.iload_n 2, 1) := by decide +kernel
theorem dX5_plate_33 : decode cX5_plate 33 = .ok (.if_icmp .gt 11, 3) := by decide +kernel
theorem dX5_plate_36 : decode cX5_plate 36 = .ok (.aload_n 0, 1) := by decide +kernel
theorem dX5_plate_37 : decode cX5_plate 37 = .ok (.getfield 68, 3) := by decide +kernel
theorem dX5_plate_40 : decode cX5_plate 40 = .ok (.iload 4, 2) := by decide +kernel
theorem dX5_plate_42 : decode cX5_plate 42 = .ok (.iaload, 1) := by decide +kernel
theorem dX5_plate_43 : decode cX5_plate 43 = .ok (.istore_n 3, 1) := by decide +kernel
theorem dX5_plate_44 : decode cX5_plate 44 = .ok (.iinc 4 1, 3) := by decide +kernel
theorem dX5_plate_47 : decode cX5_plate 47 = .ok (.goto (-42), 3) := by decide +kernel
theorem dX5_plate_50 : decode cX5_plate 50 = .ok (.iload_n 3, 1) := by decide +kernel
theorem dX5_plate_51 : decode cX5_plate 51 = .ok (.ireturn, 1) := by decide +kernel
theorem dX5_vehicle_0 : decode cX5_vehicle 0 = .ok (.iconst 0, 1) := by decide +kernel
theorem dX5_vehicle_1 : decode cX5_vehicle 1 = .ok (.istore_n 3, 1) := by decide +kernel
theorem dX5_vehicle_2 : decode cX5_vehicle 2 = .ok (.iload_n 3, 1) := by decide +kernel
theorem dX5_vehicle_3 : decode cX5_vehicle 3 = .ok (.aload_n 0, 1) := by decide +kernel
theorem dX5_vehicle_4 : decode cX5_vehicle 4 = .ok (.getfield 91, 3) := by decide +kernel
theorem dX5_vehicle_7 : decode cX5_vehicle 7 = .ok (.if_icmp .ge 21, 3) := by decide +kernel
theorem dX5_vehicle_10 : decode cX5_vehicle 10 = .ok (.aload_n 0, 1) := by decide +kernel
theorem dX5_vehicle_11 : decode cX5_vehicle 11 = .ok (.iload_n 3, 1) := by decide +kernel
theorem dX5_vehicle_12 : decode cX5_vehicle 12 = .ok (.iload_n 2, 1) := by decide +kernel
theorem dX5_vehicle_13 : decode cX5_vehicle 13 = .ok (.invokevirtual 106, 3) := by decide +kernel
theorem dX5_vehicle_16 : decode cX5_vehicle 16 = .ok (.iload_n 1, 1) := by decide +kernel
theorem dX5_vehicle_17 : decode cX5_vehicle 17 = .ok (.if_icmp .ne 5, 3) := by decide +kernel
theorem dX5_vehicle_20 : decode cX5_vehicle 20 = .ok (.iload_n 3, 1) := by decide +kernel
theorem dX5_vehicle_21 : decode cX5_vehicle 21 = .ok (.ireturn, 1) := by decide +kernel
theorem dX5_vehicle_22 : decode cX5_vehicle 22 = .ok (.iinc 3 1, 3) := by decide +kernel
theorem dX5_vehicle_25 : decode cX5_vehicle 25 = .ok (.goto (-23), 3) := by decide +kernel
theorem dX5_vehicle_28 : decode cX5_vehicle 28 = .ok (.iconst (-1), 1) := by decide +kernel
theorem dX5_vehicle_29 : decode cX5_vehicle 29 = .ok (.ireturn, 1) := by decide +kernel
theorem dX5_keeper_0 : decode cX5_keeper 0 = .ok (.iconst (-1), 1) := by decide +kernel
theorem dX5_keeper_1 : decode cX5_keeper 1 = .ok (.istore_n 3, 1) := by decide +kernel
theorem dX5_keeper_2 : decode cX5_keeper 2 = .ok (.iconst 0, 1) := by decide +kernel
theorem dX5_keeper_3 : decode cX5_keeper 3 = .ok (.istore 4, 2) := by decide +kernel
theorem dX5_keeper_5 : decode cX5_keeper 5 = .ok (.iload 4, 2) := by decide +kernel
theorem dX5_keeper_7 : decode cX5_keeper 7 = .ok (.aload_n 0, 1) := by decide +kernel
theorem dX5_keeper_8 : decode cX5_keeper 8 = .ok (.getfield 110, 3) := by decide +kernel
theorem dX5_keeper_11 : decode cX5_keeper 11 = .ok (.if_icmp .ge 39, 3) := by decide +kernel
theorem dX5_keeper_14 : decode cX5_keeper 14 = .ok (.aload_n 0, 1) := by decide +kernel
theorem dX5_keeper_15 : decode cX5_keeper 15 = .ok (.getfield 26, 3) := by decide +kernel
theorem dX5_keeper_18 : decode cX5_keeper 18 = .ok (.iload 4, 2) := by decide +kernel
theorem dX5_keeper_20 : decode cX5_keeper 20 = .ok (.iaload, 1) := by decide +kernel
theorem dX5_keeper_21 : decode cX5_keeper 21 = .ok (.iload_n 1, 1) := by decide +kernel
theorem dX5_keeper_22 : decode cX5_keeper 22 = .ok (.if_icmp .ne 22, 3) := by decide +kernel
theorem dX5_keeper_25 : decode cX5_keeper 25 = .ok (.aload_n 0, 1) := by decide +kernel
theorem dX5_keeper_26 : decode cX5_keeper 26 = .ok (.getfield 29, 3) := by decide +kernel
theorem dX5_keeper_29 : decode cX5_keeper 29 = .ok (.iload 4, 2) := by decide +kernel
theorem dX5_keeper_31 : decode cX5_keeper 31 = .ok (.iaload, 1) := by decide +kernel
theorem dX5_keeper_32 : decode cX5_keeper 32 = .ok (.iload_n 2, 1) := by decide +kernel
theorem dX5_keeper_33 : decode cX5_keeper 33 = .ok (.if_icmp .gt 11, 3) := by decide +kernel
theorem dX5_keeper_36 : decode cX5_keeper 36 = .ok (.aload_n 0, 1) := by decide +kernel
theorem dX5_keeper_37 : decode cX5_keeper 37 = .ok (.getfield 32, 3) := by decide +kernel
theorem dX5_keeper_40 : decode cX5_keeper 40 = .ok (.iload 4, 2) := by decide +kernel
theorem dX5_keeper_42 : decode cX5_keeper 42 = .ok (.iaload, 1) := by decide +kernel
theorem dX5_keeper_43 : decode cX5_keeper 43 = .ok (.istore_n 3, 1) := by decide +kernel
theorem dX5_keeper_44 : decode cX5_keeper 44 = .ok (.iinc 4 1, 3) := by decide +kernel
theorem dX5_keeper_47 : decode cX5_keeper 47 = .ok (.goto (-42), 3) := by decide +kernel
theorem dX5_keeper_50 : decode cX5_keeper 50 = .ok (.iload_n 3, 1) := by decide +kernel
theorem dX5_keeper_51 : decode cX5_keeper 51 = .ok (.ireturn, 1) := by decide +kernel
theorem dX5_present_0 : decode cX5_present 0 = .ok (.aload_n 0, 1) := by decide +kernel
theorem dX5_present_1 : decode cX5_present 1 = .ok (.iload_n 1, 1) := by decide +kernel
theorem dX5_present_2 : decode cX5_present 2 = .ok (.sipush 3000, 3) := by decide +kernel
theorem dX5_present_5 : decode cX5_present 5 = .ok (.invokevirtual 113, 3) := by decide +kernel
theorem dX5_present_8 : decode cX5_present 8 = .ok (.ireturn, 1) := by decide +kernel
theorem dX5_lastPass_0 : decode cX5_lastPass 0 = .ok (.iconst 0, 1) := by decide +kernel
theorem dX5_lastPass_1 : decode cX5_lastPass 1 = .ok (.istore_n 2, 1) := by decide +kernel
theorem dX5_lastPass_2 : decode cX5_lastPass 2 = .ok (.iconst 0, 1) := by decide +kernel
theorem dX5_lastPass_3 : decode cX5_lastPass 3 = .ok (.istore_n 3, 1) := by decide +kernel
theorem dX5_lastPass_4 : decode cX5_lastPass 4 = .ok (.iload_n 3, 1) := by decide +kernel
theorem dX5_lastPass_5 : decode cX5_lastPass 5 = .ok (.aload_n 0, 1) := by decide +kernel
theorem dX5_lastPass_6 : decode cX5_lastPass 6 = .ok (.getfield 110, 3) := by decide +kernel
theorem dX5_lastPass_9 : decode cX5_lastPass 9 = .ok (.if_icmp .ge 26, 3) := by decide +kernel
theorem dX5_lastPass_12 : decode cX5_lastPass 12 = .ok (.aload_n 0, 1) := by decide +kernel
theorem dX5_lastPass_13 : decode cX5_lastPass 13 = .ok (.getfield 26, 3) := by decide +kernel
theorem dX5_lastPass_16 : decode cX5_lastPass 16 = .ok (.iload_n 3, 1) := by decide +kernel
theorem dX5_lastPass_17 : decode cX5_lastPass 17 = .ok (.iaload, 1) := by decide +kernel
theorem dX5_lastPass_18 : decode cX5_lastPass 18 = .ok (.iload_n 1, 1) := by decide +kernel
theorem dX5_lastPass_19 : decode cX5_lastPass 19 = .ok (.if_icmp .ne 10, 3) := by decide +kernel
theorem dX5_lastPass_22 : decode cX5_lastPass 22 = .ok (.aload_n 0, 1) := by decide +kernel
theorem dX5_lastPass_23 : decode cX5_lastPass 23 = .ok (.getfield 29, 3) := by decide +kernel
theorem dX5_lastPass_26 : decode cX5_lastPass 26 = .ok (.iload_n 3, 1) := by decide +kernel
theorem dX5_lastPass_27 : decode cX5_lastPass 27 = .ok (.iaload, 1) := by decide +kernel
theorem dX5_lastPass_28 : decode cX5_lastPass 28 = .ok (.istore_n 2, 1) := by decide +kernel
theorem dX5_lastPass_29 : decode cX5_lastPass 29 = .ok (.iinc 3 1, 3) := by decide +kernel
theorem dX5_lastPass_32 : decode cX5_lastPass 32 = .ok (.goto (-28), 3) := by decide +kernel
theorem dX5_lastPass_35 : decode cX5_lastPass 35 = .ok (.iload_n 2, 1) := by decide +kernel
theorem dX5_lastPass_36 : decode cX5_lastPass 36 = .ok (.ireturn, 1) := by decide +kernel
theorem dX5_passesOn_0 : decode cX5_passesOn 0 = .ok (.aload_n 0, 1) := by decide +kernel
theorem dX5_passesOn_1 : decode cX5_passesOn 1 = .ok (.getfield 26, 3) := by decide +kernel
theorem dX5_passesOn_4 : decode cX5_passesOn 4 = .ok (.aload_n 0, 1) := by decide +kernel
theorem dX5_passesOn_5 : decode cX5_passesOn 5 = .ok (.getfield 110, 3) := by decide +kernel
theorem dX5_passesOn_8 : decode cX5_passesOn 8 = .ok (.iload_n 1, 1) := by decide +kernel
theorem dX5_passesOn_9 : decode cX5_passesOn 9 = .ok (.iastore, 1) := by decide +kernel
theorem dX5_passesOn_10 : decode cX5_passesOn 10 = .ok (.aload_n 0, 1) := by decide +kernel
theorem dX5_passesOn_11 : decode cX5_passesOn 11 = .ok (.getfield 29, 3) := by decide +kernel
theorem dX5_passesOn_14 : decode cX5_passesOn 14 = .ok (.aload_n 0, 1) := by decide +kernel
theorem dX5_passesOn_15 : decode cX5_passesOn 15 = .ok (.getfield 110, 3) := by decide +kernel
theorem dX5_passesOn_18 : decode cX5_passesOn 18 = .ok (.iload_n 2, 1) := by decide +kernel
theorem dX5_passesOn_19 : decode cX5_passesOn 19 = .ok (.iastore, 1) := by decide +kernel
theorem dX5_passesOn_20 : decode cX5_passesOn 20 = .ok (.aload_n 0, 1) := by decide +kernel
theorem dX5_passesOn_21 : decode cX5_passesOn 21 = .ok (.getfield 32, 3) := by decide +kernel
theorem dX5_passesOn_24 : decode cX5_passesOn 24 = .ok (.aload_n 0, 1) := by decide +kernel
theorem dX5_passesOn_25 : decode cX5_passesOn 25 = .ok (.getfield 110, 3) := by decide +kernel
theorem dX5_passesOn_28 : decode cX5_passesOn 28 = .ok (.iload_n 3, 1) := by decide +kernel
theorem dX5_passesOn_29 : decode cX5_passesOn 29 = .ok (.iastore, 1) := by decide +kernel
theorem dX5_passesOn_30 : decode cX5_passesOn 30 = .ok (.aload_n 0, 1) := by decide +kernel
theorem dX5_passesOn_31 : decode cX5_passesOn 31 = .ok (.dup, 1) := by decide +kernel
theorem dX5_passesOn_32 : decode cX5_passesOn 32 = .ok (.getfield 110, 3) := by decide +kernel
theorem dX5_passesOn_35 : decode cX5_passesOn 35 = .ok (.iconst 1, 1) := by decide +kernel
theorem dX5_passesOn_36 : decode cX5_passesOn 36 = .ok (.iadd, 1) := by decide +kernel
theorem dX5_passesOn_37 : decode cX5_passesOn 37 = .ok (.putfield 110, 3) := by decide +kernel
theorem dX5_passesOn_40 : decode cX5_passesOn 40 = .ok (.return_, 1) := by decide +kernel
theorem dX5_blocked_0 : decode cX5_blocked 0 = .ok (.aload_n 0, 1) := by decide +kernel
theorem dX5_blocked_1 : decode cX5_blocked 1 = .ok (.getfield 19, 3) := by decide +kernel
theorem dX5_blocked_4 : decode cX5_blocked 4 = .ok (.iload_n 1, 1) := by decide +kernel
theorem dX5_blocked_5 : decode cX5_blocked 5 = .ok (.baload, 1) := by decide +kernel
theorem dX5_blocked_6 : decode cX5_blocked 6 = .ok (.istore_n 2, 1) := by decide +kernel
theorem dX5_blocked_7 : decode cX5_blocked 7 = .ok (.iconst 0, 1) := by decide +kernel
theorem dX5_blocked_8 : decode cX5_blocked 8 = .ok (.istore_n 3, 1) := by decide +kernel
theorem dX5_blocked_9 : decode cX5_blocked 9 = .ok (.iload_n 3, 1) := by decide +kernel
theorem dX5_blocked_10 : decode cX5_blocked 10 = .ok (.bipush 6, 2) := by decide +kernel
theorem dX5_blocked_12 : decode cX5_blocked 12 = .ok (.if_icmp .ge 33, 3) := by decide +kernel
theorem dX5_blocked_15 : decode cX5_blocked 15 = .ok (.iload_n 2, 1) := by decide +kernel
theorem dX5_blocked_16 : decode cX5_blocked 16 = .ok (.ifCond .ne 17, 3) := by decide +kernel
theorem dX5_blocked_19 : decode cX5_blocked 19 = .ok (.aload_n 0, 1) := by decide +kernel
theorem dX5_blocked_20 : decode cX5_blocked 20 = .ok (.getfield 16, 3) := by decide +kernel
theorem dX5_blocked_23 : decode cX5_blocked 23 = .ok (.bipush 6, 2) := by decide +kernel
theorem dX5_blocked_25 : decode cX5_blocked 25 = .ok (.iload_n 1, 1) := by decide +kernel
theorem dX5_blocked_26 : decode cX5_blocked 26 = .ok (.imul, 1) := by decide +kernel
theorem dX5_blocked_27 : decode cX5_blocked 27 = .ok (.iload_n 3, 1) := by decide +kernel
theorem dX5_blocked_28 : decode cX5_blocked 28 = .ok (.iadd, 1) := by decide +kernel
theorem dX5_blocked_29 : decode cX5_blocked 29 = .ok (.iaload, 1) := by decide +kernel
theorem dX5_blocked_30 : decode cX5_blocked 30 = .ok (.ifCond .le 7, 3) := by decide +kernel
theorem dX5_blocked_33 : decode cX5_blocked 33 = .ok (.iconst 1, 1) := by decide +kernel
theorem dX5_blocked_34 : decode cX5_blocked 34 = .ok (.goto 4, 3) := by decide +kernel
theorem dX5_blocked_37 : decode cX5_blocked 37 = .ok (.iconst 0, 1) := by decide +kernel
theorem dX5_blocked_38 : decode cX5_blocked 38 = .ok (.istore_n 2, 1) := by decide +kernel
theorem dX5_blocked_39 : decode cX5_blocked 39 = .ok (.iinc 3 1, 3) := by decide +kernel
theorem dX5_blocked_42 : decode cX5_blocked 42 = .ok (.goto (-33), 3) := by decide +kernel
theorem dX5_blocked_45 : decode cX5_blocked 45 = .ok (.iload_n 2, 1) := by decide +kernel
theorem dX5_blocked_46 : decode cX5_blocked 46 = .ok (.ireturn, 1) := by decide +kernel
theorem dX5_addKeeper_0 : decode cX5_addKeeper 0 = .ok (.aload_n 0, 1) := by decide +kernel
theorem dX5_addKeeper_1 : decode cX5_addKeeper 1 = .ok (.getfield 84, 3) := by decide +kernel
theorem dX5_addKeeper_4 : decode cX5_addKeeper 4 = .ok (.bipush 12, 2) := by decide +kernel
theorem dX5_addKeeper_6 : decode cX5_addKeeper 6 = .ok (.if_icmp .ne 9, 3) := by decide +kernel
theorem dX5_addKeeper_9 : decode cX5_addKeeper 9 = .ok (.aload_n 0, 1) := by decide +kernel
theorem dX5_addKeeper_10 : decode cX5_addKeeper 10 = .ok (.iconst 1, 1) := by decide +kernel
theorem dX5_addKeeper_11 : decode cX5_addKeeper 11 = .ok (.invokevirtual 116, 3) := by decide +kernel
theorem dX5_addKeeper_14 : decode cX5_addKeeper 14 = .ok (.ireturn, 1) := by decide +kernel
theorem dX5_addKeeper_15 : decode cX5_addKeeper 15 = .ok (.aload_n 0, 1) := by decide +kernel
theorem dX5_addKeeper_16 : decode cX5_addKeeper 16 = .ok (.iconst 0, 1) := by decide +kernel
theorem dX5_addKeeper_17 : decode cX5_addKeeper 17 = .ok (.putfield 80, 3) := by decide +kernel
theorem dX5_addKeeper_20 : decode cX5_addKeeper 20 = .ok (.aload_n 0, 1) := by decide +kernel
theorem dX5_addKeeper_21 : decode cX5_addKeeper 21 = .ok (.dup, 1) := by decide +kernel
theorem dX5_addKeeper_22 : decode cX5_addKeeper 22 = .ok (.getfield 84, 3) := by decide +kernel
theorem dX5_addKeeper_25 : decode cX5_addKeeper 25 = .ok (.iconst 1, 1) := by decide +kernel
theorem dX5_addKeeper_26 : decode cX5_addKeeper 26 = .ok (.iadd, 1) := by decide +kernel
theorem dX5_addKeeper_27 : decode cX5_addKeeper 27 = .ok (.putfield 84, 3) := by decide +kernel
theorem dX5_addKeeper_30 : decode cX5_addKeeper 30 = .ok (.aload_n 0, 1) := by decide +kernel
theorem dX5_addKeeper_31 : decode cX5_addKeeper 31 = .ok (.getfield 84, 3) := by decide +kernel
theorem dX5_addKeeper_34 : decode cX5_addKeeper 34 = .ok (.iconst 1, 1) := by decide +kernel
theorem dX5_addKeeper_35 : decode cX5_addKeeper 35 = .ok (.isub, 1) := by decide +kernel
theorem dX5_addKeeper_36 : decode cX5_addKeeper 36 = .ok (.ireturn, 1) := by decide +kernel
theorem dX5_pass_0 : decode cX5_pass 0 = .ok (.iload_n 1, 1) := by decide +kernel
theorem dX5_pass_1 : decode cX5_pass 1 = .ok (.iconst 1, 1) := by decide +kernel
theorem dX5_pass_2 : decode cX5_pass 2 = .ok (.bipush 99, 2) := by decide +kernel
theorem dX5_pass_4 : decode cX5_pass 4 = .ok (.invokestatic 87, 3) := by decide +kernel
theorem dX5_pass_7 : decode cX5_pass 7 = .ok (.ifCond .eq 15, 3) := by decide +kernel
theorem dX5_pass_10 : decode cX5_pass 10 = .ok (.aload_n 0, 1) := by decide +kernel
theorem dX5_pass_11 : decode cX5_pass 11 = .ok (.getfield 97, 3) := by decide +kernel
theorem dX5_pass_14 : decode cX5_pass 14 = .ok (.iload_n 1, 1) := by decide +kernel
theorem dX5_pass_15 : decode cX5_pass 15 = .ok (.iadd, 1) := by decide +kernel
theorem dX5_pass_16 : decode cX5_pass 16 = .ok (.sipush 3000, 3) := by decide +kernel
theorem dX5_pass_19 : decode cX5_pass 19 = .ok (.if_icmp .le 9, 3) := by decide +kernel
theorem dX5_pass_22 : decode cX5_pass 22 = .ok (.aload_n 0, 1) := by decide +kernel
theorem dX5_pass_23 : decode cX5_pass 23 = .ok (.iconst 1, 1) := by decide +kernel
theorem dX5_pass_24 : decode cX5_pass 24 = .ok (.invokevirtual 116, 3) := by decide +kernel
theorem dX5_pass_27 : decode cX5_pass 27 = .ok (.ireturn, 1) := by decide +kernel
theorem dX5_pass_28 : decode cX5_pass 28 = .ok (.aload_n 0, 1) := by decide +kernel
theorem dX5_pass_29 : decode cX5_pass 29 = .ok (.iconst 0, 1) := by decide +kernel
theorem dX5_pass_30 : decode cX5_pass 30 = .ok (.putfield 80, 3) := by decide +kernel
theorem dX5_pass_33 : decode cX5_pass 33 = .ok (.aload_n 0, 1) := by decide +kernel
theorem dX5_pass_34 : decode cX5_pass 34 = .ok (.dup, 1) := by decide +kernel
theorem dX5_pass_35 : decode cX5_pass 35 = .ok (.getfield 97, 3) := by decide +kernel
theorem dX5_pass_38 : decode cX5_pass 38 = .ok (.iload_n 1, 1) := by decide +kernel
theorem dX5_pass_39 : decode cX5_pass 39 = .ok (.iadd, 1) := by decide +kernel
theorem dX5_pass_40 : decode cX5_pass 40 = .ok (.putfield 97, 3) := by decide +kernel
theorem dX5_pass_43 : decode cX5_pass 43 = .ok (.aload_n 0, 1) := by decide +kernel
theorem dX5_pass_44 : decode cX5_pass 44 = .ok (.getfield 97, 3) := by decide +kernel
theorem dX5_pass_47 : decode cX5_pass 47 = .ok (.ireturn, 1) := by decide +kernel
theorem dX5_day_0 : decode cX5_day 0 = .ok (.aload_n 0, 1) := by decide +kernel
theorem dX5_day_1 : decode cX5_day 1 = .ok (.iconst 0, 1) := by decide +kernel
theorem dX5_day_2 : decode cX5_day 2 = .ok (.putfield 80, 3) := by decide +kernel
theorem dX5_day_5 : decode cX5_day 5 = .ok (.aload_n 0, 1) := by decide +kernel
theorem dX5_day_6 : decode cX5_day 6 = .ok (.getfield 97, 3) := by decide +kernel
theorem dX5_day_9 : decode cX5_day 9 = .ok (.ireturn, 1) := by decide +kernel
theorem dX5_issues_0 : decode cX5_issues 0 = .ok (.aload_n 0, 1) := by decide +kernel
theorem dX5_issues_1 : decode cX5_issues 1 = .ok (.iload_n 1, 1) := by decide +kernel
theorem dX5_issues_2 : decode cX5_issues 2 = .ok (.aload_n 0, 1) := by decide +kernel
theorem dX5_issues_3 : decode cX5_issues 3 = .ok (.getfield 94, 3) := by decide +kernel
theorem dX5_issues_6 : decode cX5_issues 6 = .ok (.invokevirtual 120, 3) := by decide +kernel
theorem dX5_issues_9 : decode cX5_issues 9 = .ok (.aload_n 0, 1) := by decide +kernel
theorem dX5_issues_10 : decode cX5_issues 10 = .ok (.dup, 1) := by decide +kernel
theorem dX5_issues_11 : decode cX5_issues 11 = .ok (.getfield 94, 3) := by decide +kernel
theorem dX5_issues_14 : decode cX5_issues 14 = .ok (.iconst 1, 1) := by decide +kernel
theorem dX5_issues_15 : decode cX5_issues 15 = .ok (.iadd, 1) := by decide +kernel
theorem dX5_issues_16 : decode cX5_issues 16 = .ok (.putfield 94, 3) := by decide +kernel
theorem dX5_issues_19 : decode cX5_issues 19 = .ok (.aload_n 0, 1) := by decide +kernel
theorem dX5_issues_20 : decode cX5_issues 20 = .ok (.getfield 94, 3) := by decide +kernel
theorem dX5_issues_23 : decode cX5_issues 23 = .ok (.iconst 1, 1) := by decide +kernel
theorem dX5_issues_24 : decode cX5_issues 24 = .ok (.isub, 1) := by decide +kernel
theorem dX5_issues_25 : decode cX5_issues 25 = .ok (.ireturn, 1) := by decide +kernel
theorem dX5_adds_0 : decode cX5_adds 0 = .ok (.aload_n 0, 1) := by decide +kernel
theorem dX5_adds_1 : decode cX5_adds 1 = .ok (.iload_n 1, 1) := by decide +kernel
theorem dX5_adds_2 : decode cX5_adds 2 = .ok (.invokevirtual 124, 3) := by decide +kernel
theorem dX5_adds_5 : decode cX5_adds 5 = .ok (.ifCond .ne 9, 3) := by decide +kernel
theorem dX5_adds_8 : decode cX5_adds 8 = .ok (.aload_n 0, 1) := by decide +kernel
theorem dX5_adds_9 : decode cX5_adds 9 = .ok (.iconst 1, 1) := by decide +kernel
theorem dX5_adds_10 : decode cX5_adds 10 = .ok (.invokevirtual 116, 3) := by decide +kernel
theorem dX5_adds_13 : decode cX5_adds 13 = .ok (.ireturn, 1) := by decide +kernel
theorem dX5_adds_14 : decode cX5_adds 14 = .ok (.iload_n 2, 1) := by decide +kernel
theorem dX5_adds_15 : decode cX5_adds 15 = .ok (.invokestatic 128, 3) := by decide +kernel
theorem dX5_adds_18 : decode cX5_adds 18 = .ok (.ifCond .ne 9, 3) := by decide +kernel
theorem dX5_adds_21 : decode cX5_adds 21 = .ok (.aload_n 0, 1) := by decide +kernel
theorem dX5_adds_22 : decode cX5_adds 22 = .ok (.iconst 2, 1) := by decide +kernel
theorem dX5_adds_23 : decode cX5_adds 23 = .ok (.invokevirtual 116, 3) := by decide +kernel
theorem dX5_adds_26 : decode cX5_adds 26 = .ok (.ireturn, 1) := by decide +kernel
theorem dX5_adds_27 : decode cX5_adds 27 = .ok (.aload_n 0, 1) := by decide +kernel
theorem dX5_adds_28 : decode cX5_adds 28 = .ok (.getfield 91, 3) := by decide +kernel
theorem dX5_adds_31 : decode cX5_adds 31 = .ok (.bipush 15, 2) := by decide +kernel
theorem dX5_adds_33 : decode cX5_adds 33 = .ok (.if_icmp .eq 16, 3) := by decide +kernel
theorem dX5_adds_36 : decode cX5_adds 36 = .ok (.iload_n 3, 1) := by decide +kernel
theorem dX5_adds_37 : decode cX5_adds 37 = .ok (.ifCond .eq 18, 3) := by decide +kernel
theorem dX5_adds_40 : decode cX5_adds 40 = .ok (.aload_n 0, 1) := by decide +kernel
theorem dX5_adds_41 : decode cX5_adds 41 = .ok (.getfield 94, 3) := by decide +kernel
theorem dX5_adds_44 : decode cX5_adds 44 = .ok (.bipush 40, 2) := by decide +kernel
theorem dX5_adds_46 : decode cX5_adds 46 = .ok (.if_icmp .ne 9, 3) := by decide +kernel
theorem dX5_adds_49 : decode cX5_adds 49 = .ok (.aload_n 0, 1) := by decide +kernel
theorem dX5_adds_50 : decode cX5_adds 50 = .ok (.iconst 3, 1) := by decide +kernel
theorem dX5_adds_51 : decode cX5_adds 51 = .ok (.invokevirtual 116, 3) := by decide +kernel
theorem dX5_adds_54 : decode cX5_adds 54 = .ok (.ireturn, 1) := by decide +kernel
theorem dX5_adds_55 : decode cX5_adds 55 = .ok (.aload_n 0, 1) := by decide +kernel
theorem dX5_adds_56 : decode cX5_adds 56 = .ok (.iconst 0, 1) := by decide +kernel
theorem dX5_adds_57 : decode cX5_adds 57 = .ok (.putfield 80, 3) := by decide +kernel
theorem dX5_adds_60 : decode cX5_adds 60 = .ok (.aload_n 0, 1) := by decide +kernel
theorem dX5_adds_61 : decode cX5_adds 61 = .ok (.getfield 13, 3) := by decide +kernel
theorem dX5_adds_64 : decode cX5_adds 64 = .ok (.aload_n 0, 1) := by decide +kernel
theorem dX5_adds_65 : decode cX5_adds 65 = .ok (.getfield 91, 3) := by decide +kernel
theorem dX5_adds_68 : decode cX5_adds 68 = .ok (.iload_n 2, 1) := by decide +kernel
theorem dX5_adds_69 : decode cX5_adds 69 = .ok (.iastore, 1) := by decide +kernel
theorem dX5_adds_70 : decode cX5_adds 70 = .ok (.aload_n 0, 1) := by decide +kernel
theorem dX5_adds_71 : decode cX5_adds 71 = .ok (.getfield 23, 3) := by decide +kernel
theorem dX5_adds_74 : decode cX5_adds 74 = .ok (.aload_n 0, 1) := by decide +kernel
theorem dX5_adds_75 : decode cX5_adds 75 = .ok (.getfield 91, 3) := by decide +kernel
theorem dX5_adds_78 : decode cX5_adds 78 = .ok (.iload_n 3, 1) := by decide +kernel
theorem dX5_adds_79 : decode cX5_adds 79 = .ok (.bastore, 1) := by decide +kernel
theorem dX5_adds_80 : decode cX5_adds 80 = .ok (.aload_n 0, 1) := by decide +kernel
theorem dX5_adds_81 : decode cX5_adds 81 = .ok (.aload_n 0, 1) := by decide +kernel
theorem dX5_adds_82 : decode cX5_adds 82 = .ok (.getfield 91, 3) := by decide +kernel
theorem dX5_adds_85 : decode cX5_adds 85 = .ok (.aload_n 0, 1) := by decide +kernel
theorem dX5_adds_86 : decode cX5_adds 86 = .ok (.getfield 97, 3) := by decide +kernel
theorem dX5_adds_89 : decode cX5_adds 89 = .ok (.iload_n 1, 1) := by decide +kernel
theorem dX5_adds_90 : decode cX5_adds 90 = .ok (.invokevirtual 132, 3) := by decide +kernel
theorem dX5_adds_93 : decode cX5_adds 93 = .ok (.aload_n 0, 1) := by decide +kernel
theorem dX5_adds_94 : decode cX5_adds 94 = .ok (.dup, 1) := by decide +kernel
theorem dX5_adds_95 : decode cX5_adds 95 = .ok (.getfield 91, 3) := by decide +kernel
theorem dX5_adds_98 : decode cX5_adds 98 = .ok (.iconst 1, 1) := by decide +kernel
theorem dX5_adds_99 : decode cX5_adds 99 = .ok (.iadd, 1) := by decide +kernel
theorem dX5_adds_100 : decode cX5_adds 100 = .ok (.putfield 91, 3) := by decide +kernel
theorem dX5_adds_103 : decode cX5_adds 103 = .ok (.iload_n 3, 1) := by decide +kernel
theorem dX5_adds_104 : decode cX5_adds 104 = .ok (.ifCond .eq 25, 3) := by decide +kernel
theorem dX5_adds_107 : decode cX5_adds 107 = .ok (.aload_n 0, 1) := by decide +kernel
theorem dX5_adds_108 : decode cX5_adds 108 = .ok (.aload_n 0, 1) := by decide +kernel
theorem dX5_adds_109 : decode cX5_adds 109 = .ok (.getfield 91, 3) := by decide +kernel
theorem dX5_adds_112 : decode cX5_adds 112 = .ok (.iconst 1, 1) := by decide +kernel
theorem dX5_adds_113 : decode cX5_adds 113 = .ok (.isub, 1) := by decide +kernel
theorem dX5_adds_114 : decode cX5_adds 114 = .ok (.invokevirtual 136, 3) := by decide +kernel
theorem dX5_adds_117 : decode cX5_adds 117 = .ok (.pop, 1) := by decide +kernel
theorem dX5_adds_118 : decode cX5_adds 118 = .ok (.aload_n 0, 1) := by decide +kernel
theorem dX5_adds_119 : decode cX5_adds 119 = .ok (.aload_n 0, 1) := by decide +kernel
theorem dX5_adds_120 : decode cX5_adds 120 = .ok (.getfield 91, 3) := by decide +kernel
theorem dX5_adds_123 : decode cX5_adds 123 = .ok (.iconst 1, 1) := by decide +kernel
theorem dX5_adds_124 : decode cX5_adds 124 = .ok (.isub, 1) := by decide +kernel
theorem dX5_adds_125 : decode cX5_adds 125 = .ok (.iconst 1, 1) := by decide +kernel
theorem dX5_adds_126 : decode cX5_adds 126 = .ok (.invokevirtual 139, 3) := by decide +kernel
theorem dX5_adds_129 : decode cX5_adds 129 = .ok (.aload_n 0, 1) := by decide +kernel
theorem dX5_adds_130 : decode cX5_adds 130 = .ok (.getfield 91, 3) := by decide +kernel
theorem dX5_adds_133 : decode cX5_adds 133 = .ok (.iconst 1, 1) := by decide +kernel
theorem dX5_adds_134 : decode cX5_adds 134 = .ok (.isub, 1) := by decide +kernel
theorem dX5_adds_135 : decode cX5_adds 135 = .ok (.ireturn, 1) := by decide +kernel
theorem dX5_register_0 : decode cX5_register 0 = .ok (.aload_n 0, 1) := by decide +kernel
theorem dX5_register_1 : decode cX5_register 1 = .ok (.iload_n 1, 1) := by decide +kernel
theorem dX5_register_2 : decode cX5_register 2 = .ok (.iload_n 2, 1) := by decide +kernel
theorem dX5_register_3 : decode cX5_register 3 = .ok (.iconst 1, 1) := by decide +kernel
theorem dX5_register_4 : decode cX5_register 4 = .ok (.invokevirtual 143, 3) := by decide +kernel
theorem dX5_register_7 : decode cX5_register 7 = .ok (.ireturn, 1) := by decide +kernel
theorem dX5_bringIn_0 : decode cX5_bringIn 0 = .ok (.aload_n 0, 1) := by decide +kernel
theorem dX5_bringIn_1 : decode cX5_bringIn 1 = .ok (.iload_n 1, 1) := by decide +kernel
theorem dX5_bringIn_2 : decode cX5_bringIn 2 = .ok (.iload_n 2, 1) := by decide +kernel
theorem dX5_bringIn_3 : decode cX5_bringIn 3 = .ok (.iconst 0, 1) := by decide +kernel
theorem dX5_bringIn_4 : decode cX5_bringIn 4 = .ok (.invokevirtual 143, 3) := by decide +kernel
theorem dX5_bringIn_7 : decode cX5_bringIn 7 = .ok (.ireturn, 1) := by decide +kernel
theorem dX5_admit_0 : decode cX5_admit 0 = .ok (.aload_n 0, 1) := by decide +kernel
theorem dX5_admit_1 : decode cX5_admit 1 = .ok (.iload_n 1, 1) := by decide +kernel
theorem dX5_admit_2 : decode cX5_admit 2 = .ok (.invokevirtual 147, 3) := by decide +kernel
theorem dX5_admit_5 : decode cX5_admit 5 = .ok (.ifCond .ne 9, 3) := by decide +kernel
theorem dX5_admit_8 : decode cX5_admit 8 = .ok (.aload_n 0, 1) := by decide +kernel
theorem dX5_admit_9 : decode cX5_admit 9 = .ok (.iconst 1, 1) := by decide +kernel
theorem dX5_admit_10 : decode cX5_admit 10 = .ok (.invokevirtual 116, 3) := by decide +kernel
theorem dX5_admit_13 : decode cX5_admit 13 = .ok (.ireturn, 1) := by decide +kernel
theorem dX5_admit_14 : decode cX5_admit 14 = .ok (.aload_n 0, 1) := by decide +kernel
theorem dX5_admit_15 : decode cX5_admit 15 = .ok (.getfield 23, 3) := by decide +kernel
theorem dX5_admit_18 : decode cX5_admit 18 = .ok (.iload_n 1, 1) := by decide +kernel
theorem dX5_admit_19 : decode cX5_admit 19 = .ok (.baload, 1) := by decide +kernel
theorem dX5_admit_20 : decode cX5_admit 20 = .ok (.ifCond .eq 9, 3) := by decide +kernel
theorem dX5_admit_23 : decode cX5_admit 23 = .ok (.aload_n 0, 1) := by decide +kernel
theorem dX5_admit_24 : decode cX5_admit 24 = .ok (.iconst 2, 1) := by decide +kernel
theorem dX5_admit_25 : decode cX5_admit 25 = .ok (.invokevirtual 116, 3) := by decide +kernel
theorem dX5_admit_28 : decode cX5_admit 28 = .ok (.ireturn, 1) := by decide +kernel
theorem dX5_admit_29 : decode cX5_admit 29 = .ok (.aload_n 0, 1) := by decide +kernel
theorem dX5_admit_30 : decode cX5_admit 30 = .ok (.getfield 19, 3) := by decide +kernel
theorem dX5_admit_33 : decode cX5_admit 33 = .ok (.iload_n 1, 1) := by decide +kernel
theorem dX5_admit_34 : decode cX5_admit 34 = .ok (.baload, 1) := by decide +kernel
theorem dX5_admit_35 : decode cX5_admit 35 = .ok (.ifCond .ne 12, 3) := by decide +kernel
theorem dX5_admit_38 : decode cX5_admit 38 = .ok (.aload_n 0, 1) := by decide +kernel
theorem dX5_admit_39 : decode cX5_admit 39 = .ok (.getfield 94, 3) := by decide +kernel
theorem dX5_admit_42 : decode cX5_admit 42 = .ok (.bipush 40, 2) := by decide +kernel
theorem dX5_admit_44 : decode cX5_admit 44 = .ok (.if_icmp .ne 9, 3) := by decide +kernel
theorem dX5_admit_47 : decode cX5_admit 47 = .ok (.aload_n 0, 1) := by decide +kernel
theorem dX5_admit_48 : decode cX5_admit 48 = .ok (.iconst 3, 1) := by decide +kernel
theorem dX5_admit_49 : decode cX5_admit 49 = .ok (.invokevirtual 116, 3) := by decide +kernel
theorem dX5_admit_52 : decode cX5_admit 52 = .ok (.ireturn, 1) := by decide +kernel
theorem dX5_admit_53 : decode cX5_admit 53 = .ok (.aload_n 0, 1) := by decide +kernel
theorem dX5_admit_54 : decode cX5_admit 54 = .ok (.iconst 0, 1) := by decide +kernel
theorem dX5_admit_55 : decode cX5_admit 55 = .ok (.putfield 80, 3) := by decide +kernel
theorem dX5_admit_58 : decode cX5_admit 58 = .ok (.aload_n 0, 1) := by decide +kernel
theorem dX5_admit_59 : decode cX5_admit 59 = .ok (.getfield 23, 3) := by decide +kernel
theorem dX5_admit_62 : decode cX5_admit 62 = .ok (.iload_n 1, 1) := by decide +kernel
theorem dX5_admit_63 : decode cX5_admit 63 = .ok (.iconst 1, 1) := by decide +kernel
theorem dX5_admit_64 : decode cX5_admit 64 = .ok (.bastore, 1) := by decide +kernel
theorem dX5_admit_65 : decode cX5_admit 65 = .ok (.aload_n 0, 1) := by decide +kernel
theorem dX5_admit_66 : decode cX5_admit 66 = .ok (.iload_n 1, 1) := by decide +kernel
theorem dX5_admit_67 : decode cX5_admit 67 = .ok (.iconst 1, 1) := by decide +kernel
theorem dX5_admit_68 : decode cX5_admit 68 = .ok (.invokevirtual 139, 3) := by decide +kernel
theorem dX5_admit_71 : decode cX5_admit 71 = .ok (.aload_n 0, 1) := by decide +kernel
theorem dX5_admit_72 : decode cX5_admit 72 = .ok (.iload_n 1, 1) := by decide +kernel
theorem dX5_admit_73 : decode cX5_admit 73 = .ok (.invokevirtual 136, 3) := by decide +kernel
theorem dX5_admit_76 : decode cX5_admit 76 = .ok (.ireturn, 1) := by decide +kernel
theorem dX5_setOnRoad_0 : decode cX5_setOnRoad 0 = .ok (.aload_n 0, 1) := by decide +kernel
theorem dX5_setOnRoad_1 : decode cX5_setOnRoad 1 = .ok (.aload_n 0, 1) := by decide +kernel
theorem dX5_setOnRoad_2 : decode cX5_setOnRoad 2 = .ok (.iload_n 1, 1) := by decide +kernel
theorem dX5_setOnRoad_3 : decode cX5_setOnRoad 3 = .ok (.invokevirtual 147, 3) := by decide +kernel
theorem dX5_setOnRoad_6 : decode cX5_setOnRoad 6 = .ok (.ifCond .ne 7, 3) := by decide +kernel
theorem dX5_setOnRoad_9 : decode cX5_setOnRoad 9 = .ok (.iconst 1, 1) := by decide +kernel
theorem dX5_setOnRoad_10 : decode cX5_setOnRoad 10 = .ok (.goto 30, 3) := by decide +kernel
theorem dX5_setOnRoad_13 : decode cX5_setOnRoad 13 = .ok (.aload_n 0, 1) := by decide +kernel
theorem dX5_setOnRoad_14 : decode cX5_setOnRoad 14 = .ok (.getfield 19, 3) := by decide +kernel
theorem dX5_setOnRoad_17 : decode cX5_setOnRoad 17 = .ok (.iload_n 1, 1) := by decide +kernel
theorem dX5_setOnRoad_18 : decode cX5_setOnRoad 18 = .ok (.baload, 1) := by decide +kernel
theorem dX5_setOnRoad_19 : decode cX5_setOnRoad 19 = .ok (.ifCond .ne 16, 3) := by decide +kernel
theorem dX5_setOnRoad_22 : decode cX5_setOnRoad 22 = .ok (.aload_n 0, 1) := by decide +kernel
theorem dX5_setOnRoad_23 : decode cX5_setOnRoad 23 = .ok (.iload_n 1, 1) := by decide +kernel
theorem dX5_setOnRoad_24 : decode cX5_setOnRoad 24 = .ok (.aload_n 0, 1) := by decide +kernel
theorem dX5_setOnRoad_25 : decode cX5_setOnRoad 25 = .ok (.getfield 97, 3) := by decide +kernel
theorem dX5_setOnRoad_28 : decode cX5_setOnRoad 28 = .ok (.invokevirtual 106, 3) := by decide +kernel
theorem dX5_setOnRoad_31 : decode cX5_setOnRoad 31 = .ok (.iconst (-1), 1) := by decide +kernel
theorem dX5_setOnRoad_32 : decode cX5_setOnRoad 32 = .ok (.if_icmp .ne 7, 3) := by decide +kernel
theorem dX5_setOnRoad_35 : decode cX5_setOnRoad 35 = .ok (.iconst 2, 1) := by decide +kernel
theorem dX5_setOnRoad_36 : decode cX5_setOnRoad 36 = .ok (.goto 4, 3) := by decide +kernel
theorem dX5_setOnRoad_39 : decode cX5_setOnRoad 39 = .ok (.iconst 0, 1) := by decide +kernel
theorem dX5_setOnRoad_40 : decode cX5_setOnRoad 40 = .ok (.putfield 80, 3) := by decide +kernel
theorem dX5_setOnRoad_43 : decode cX5_setOnRoad 43 = .ok (.aload_n 0, 1) := by decide +kernel
theorem dX5_setOnRoad_44 : decode cX5_setOnRoad 44 = .ok (.getfield 80, 3) := by decide +kernel
theorem dX5_setOnRoad_47 : decode cX5_setOnRoad 47 = .ok (.ifCond .le 5, 3) := by decide +kernel
theorem dX5_setOnRoad_50 : decode cX5_setOnRoad 50 = .ok (.iconst 0, 1) := by decide +kernel
theorem dX5_setOnRoad_51 : decode cX5_setOnRoad 51 = .ok (.ireturn, 1) := by decide +kernel
theorem dX5_setOnRoad_52 : decode cX5_setOnRoad 52 = .ok (.aload_n 0, 1) := by decide +kernel
theorem dX5_setOnRoad_53 : decode cX5_setOnRoad 53 = .ok (.iload_n 1, 1) := by decide +kernel
theorem dX5_setOnRoad_54 : decode cX5_setOnRoad 54 = .ok (.aload_n 0, 1) := by decide +kernel
theorem dX5_setOnRoad_55 : decode cX5_setOnRoad 55 = .ok (.getfield 97, 3) := by decide +kernel
theorem dX5_setOnRoad_58 : decode cX5_setOnRoad 58 = .ok (.invokevirtual 150, 3) := by decide +kernel
theorem dX5_setOnRoad_61 : decode cX5_setOnRoad 61 = .ok (.istore_n 3, 1) := by decide +kernel
theorem dX5_setOnRoad_62 : decode cX5_setOnRoad 62 = .ok (.aload_n 0, 1) := by decide +kernel
theorem dX5_setOnRoad_63 : decode cX5_setOnRoad 63 = .ok (.iload_n 1, 1) := by decide +kernel
theorem dX5_setOnRoad_64 : decode cX5_setOnRoad 64 = .ok (.iload_n 2, 1) := by decide +kernel
theorem dX5_setOnRoad_65 : decode cX5_setOnRoad 65 = .ok (.invokevirtual 139, 3) := by decide +kernel
theorem dX5_setOnRoad_68 : decode cX5_setOnRoad 68 = .ok (.iload_n 3, 1) := by decide +kernel
theorem dX5_setOnRoad_69 : decode cX5_setOnRoad 69 = .ok (.ireturn, 1) := by decide +kernel
theorem dX5_isOnRoad_0 : decode cX5_isOnRoad 0 = .ok (.aload_n 0, 1) := by decide +kernel
theorem dX5_isOnRoad_1 : decode cX5_isOnRoad 1 = .ok (.aload_n 0, 1) := by decide +kernel
theorem dX5_isOnRoad_2 : decode cX5_isOnRoad 2 = .ok (.iload_n 1, 1) := by decide +kernel
theorem dX5_isOnRoad_3 : decode cX5_isOnRoad 3 = .ok (.invokevirtual 147, 3) := by decide +kernel
theorem dX5_isOnRoad_6 : decode cX5_isOnRoad 6 = .ok (.ifCond .ne 7, 3) := by decide +kernel
theorem dX5_isOnRoad_9 : decode cX5_isOnRoad 9 = .ok (.iconst 1, 1) := by decide +kernel
theorem dX5_isOnRoad_10 : decode cX5_isOnRoad 10 = .ok (.goto 16, 3) := by decide +kernel
theorem dX5_isOnRoad_13 : decode cX5_isOnRoad 13 = .ok (.aload_n 0, 1) := by decide +kernel
theorem dX5_isOnRoad_14 : decode cX5_isOnRoad 14 = .ok (.iload_n 2, 1) := by decide +kernel
theorem dX5_isOnRoad_15 : decode cX5_isOnRoad 15 = .ok (.invokevirtual 154, 3) := by decide +kernel
theorem dX5_isOnRoad_18 : decode cX5_isOnRoad 18 = .ok (.ifCond .eq 7, 3) := by decide +kernel
theorem dX5_isOnRoad_21 : decode cX5_isOnRoad 21 = .ok (.iconst 0, 1) := by decide +kernel
theorem dX5_isOnRoad_22 : decode cX5_isOnRoad 22 = .ok (.goto 4, 3) := by decide +kernel
theorem dX5_isOnRoad_25 : decode cX5_isOnRoad 25 = .ok (.iconst 2, 1) := by decide +kernel
theorem dX5_isOnRoad_26 : decode cX5_isOnRoad 26 = .ok (.putfield 80, 3) := by decide +kernel
theorem dX5_isOnRoad_29 : decode cX5_isOnRoad 29 = .ok (.aload_n 0, 1) := by decide +kernel
theorem dX5_isOnRoad_30 : decode cX5_isOnRoad 30 = .ok (.getfield 80, 3) := by decide +kernel
theorem dX5_isOnRoad_33 : decode cX5_isOnRoad 33 = .ok (.ifCond .ne 16, 3) := by decide +kernel
theorem dX5_isOnRoad_36 : decode cX5_isOnRoad 36 = .ok (.aload_n 0, 1) := by decide +kernel
theorem dX5_isOnRoad_37 : decode cX5_isOnRoad 37 = .ok (.iload_n 1, 1) := by decide +kernel
theorem dX5_isOnRoad_38 : decode cX5_isOnRoad 38 = .ok (.iload_n 2, 1) := by decide +kernel
theorem dX5_isOnRoad_39 : decode cX5_isOnRoad 39 = .ok (.invokevirtual 150, 3) := by decide +kernel
theorem dX5_isOnRoad_42 : decode cX5_isOnRoad 42 = .ok (.ifCond .eq 7, 3) := by decide +kernel
theorem dX5_isOnRoad_45 : decode cX5_isOnRoad 45 = .ok (.iconst 1, 1) := by decide +kernel
theorem dX5_isOnRoad_46 : decode cX5_isOnRoad 46 = .ok (.goto 4, 3) := by decide +kernel
theorem dX5_isOnRoad_49 : decode cX5_isOnRoad 49 = .ok (.iconst 0, 1) := by decide +kernel
theorem dX5_isOnRoad_50 : decode cX5_isOnRoad 50 = .ok (.ireturn, 1) := by decide +kernel
theorem dX5_scrap_0 : decode cX5_scrap 0 = .ok (.aload_n 0, 1) := by decide +kernel
theorem dX5_scrap_1 : decode cX5_scrap 1 = .ok (.iload_n 1, 1) := by decide +kernel
theorem dX5_scrap_2 : decode cX5_scrap 2 = .ok (.invokevirtual 147, 3) := by decide +kernel
theorem dX5_scrap_5 : decode cX5_scrap 5 = .ok (.ifCond .ne 9, 3) := by decide +kernel
theorem dX5_scrap_8 : decode cX5_scrap 8 = .ok (.aload_n 0, 1) := by decide +kernel
theorem dX5_scrap_9 : decode cX5_scrap 9 = .ok (.iconst 1, 1) := by decide +kernel
theorem dX5_scrap_10 : decode cX5_scrap 10 = .ok (.invokevirtual 116, 3) := by decide +kernel
theorem dX5_scrap_13 : decode cX5_scrap 13 = .ok (.ireturn, 1) := by decide +kernel
theorem dX5_scrap_14 : decode cX5_scrap 14 = .ok (.aload_n 0, 1) := by decide +kernel
theorem dX5_scrap_15 : decode cX5_scrap 15 = .ok (.iload_n 1, 1) := by decide +kernel
theorem dX5_scrap_16 : decode cX5_scrap 16 = .ok (.invokevirtual 157, 3) := by decide +kernel
theorem dX5_scrap_19 : decode cX5_scrap 19 = .ok (.ifCond .eq 9, 3) := by decide +kernel
theorem dX5_scrap_22 : decode cX5_scrap 22 = .ok (.aload_n 0, 1) := by decide +kernel
theorem dX5_scrap_23 : decode cX5_scrap 23 = .ok (.iconst 2, 1) := by decide +kernel
theorem dX5_scrap_24 : decode cX5_scrap 24 = .ok (.invokevirtual 116, 3) := by decide +kernel
theorem dX5_scrap_27 : decode cX5_scrap 27 = .ok (.ireturn, 1) := by decide +kernel
theorem dX5_scrap_28 : decode cX5_scrap 28 = .ok (.aload_n 0, 1) := by decide +kernel
theorem dX5_scrap_29 : decode cX5_scrap 29 = .ok (.iconst 0, 1) := by decide +kernel
theorem dX5_scrap_30 : decode cX5_scrap 30 = .ok (.putfield 80, 3) := by decide +kernel
theorem dX5_scrap_33 : decode cX5_scrap 33 = .ok (.aload_n 0, 1) := by decide +kernel
theorem dX5_scrap_34 : decode cX5_scrap 34 = .ok (.getfield 19, 3) := by decide +kernel
theorem dX5_scrap_37 : decode cX5_scrap 37 = .ok (.iload_n 1, 1) := by decide +kernel
theorem dX5_scrap_38 : decode cX5_scrap 38 = .ok (.iconst 1, 1) := by decide +kernel
theorem dX5_scrap_39 : decode cX5_scrap 39 = .ok (.bastore, 1) := by decide +kernel
theorem dX5_scrap_40 : decode cX5_scrap 40 = .ok (.aload_n 0, 1) := by decide +kernel
theorem dX5_scrap_41 : decode cX5_scrap 41 = .ok (.iload_n 1, 1) := by decide +kernel
theorem dX5_scrap_42 : decode cX5_scrap 42 = .ok (.iconst 0, 1) := by decide +kernel
theorem dX5_scrap_43 : decode cX5_scrap 43 = .ok (.invokevirtual 139, 3) := by decide +kernel
theorem dX5_scrap_46 : decode cX5_scrap 46 = .ok (.aload_n 0, 1) := by decide +kernel
theorem dX5_scrap_47 : decode cX5_scrap 47 = .ok (.iload_n 1, 1) := by decide +kernel
theorem dX5_scrap_48 : decode cX5_scrap 48 = .ok (.iconst (-1), 1) := by decide +kernel
theorem dX5_scrap_49 : decode cX5_scrap 49 = .ok (.invokevirtual 120, 3) := by decide +kernel
theorem dX5_scrap_52 : decode cX5_scrap 52 = .ok (.iconst 0, 1) := by decide +kernel
theorem dX5_scrap_53 : decode cX5_scrap 53 = .ok (.istore_n 2, 1) := by decide +kernel
theorem dX5_scrap_54 : decode cX5_scrap 54 = .ok (.iconst 0, 1) := by decide +kernel
theorem dX5_scrap_55 : decode cX5_scrap 55 = .ok (.istore_n 3, 1) := by decide +kernel
theorem dX5_scrap_56 : decode cX5_scrap 56 = .ok (.iload_n 3, 1) := by decide +kernel
theorem dX5_scrap_57 : decode cX5_scrap 57 = .ok (.aload_n 0, 1) := by decide +kernel
theorem dX5_scrap_58 : decode cX5_scrap 58 = .ok (.getfield 91, 3) := by decide +kernel
theorem dX5_scrap_61 : decode cX5_scrap 61 = .ok (.if_icmp .ge 26, 3) := by decide +kernel
theorem dX5_scrap_64 : decode cX5_scrap 64 = .ok (.iload_n 2, 1) := by decide +kernel
theorem dX5_scrap_65 : decode cX5_scrap 65 = .ok (.aload_n 0, 1) := by decide +kernel
theorem dX5_scrap_66 : decode cX5_scrap 66 = .ok (.getfield 19, 3) := by decide +kernel
theorem dX5_scrap_69 : decode cX5_scrap 69 = .ok (.iload_n 3, 1) := by decide +kernel
theorem dX5_scrap_70 : decode cX5_scrap 70 = .ok (.baload, 1) := by decide +kernel
theorem dX5_scrap_71 : decode cX5_scrap 71 = .ok (.ifCond .eq 7, 3) := by decide +kernel
theorem dX5_scrap_74 : decode cX5_scrap 74 = .ok (.iconst 0, 1) := by decide +kernel
theorem dX5_scrap_75 : decode cX5_scrap 75 = .ok (.goto 4, 3) := by decide +kernel
theorem dX5_scrap_78 : decode cX5_scrap 78 = .ok (.iconst 1, 1) := by decide +kernel
theorem dX5_scrap_79 : decode cX5_scrap 79 = .ok (.iadd, 1) := by decide +kernel
theorem dX5_scrap_80 : decode cX5_scrap 80 = .ok (.istore_n 2, 1) := by decide +kernel
theorem dX5_scrap_81 : decode cX5_scrap 81 = .ok (.iinc 3 1, 3) := by decide +kernel
theorem dX5_scrap_84 : decode cX5_scrap 84 = .ok (.goto (-28), 3) := by decide +kernel
theorem dX5_scrap_87 : decode cX5_scrap 87 = .ok (.iload_n 2, 1) := by decide +kernel
theorem dX5_scrap_88 : decode cX5_scrap 88 = .ok (.ireturn, 1) := by decide +kernel
theorem dX5_kindOf_0 : decode cX5_kindOf 0 = .ok (.aload_n 0, 1) := by decide +kernel
theorem dX5_kindOf_1 : decode cX5_kindOf 1 = .ok (.aload_n 0, 1) := by decide +kernel
theorem dX5_kindOf_2 : decode cX5_kindOf 2 = .ok (.iload_n 1, 1) := by decide +kernel
theorem dX5_kindOf_3 : decode cX5_kindOf 3 = .ok (.invokevirtual 147, 3) := by decide +kernel
theorem dX5_kindOf_6 : decode cX5_kindOf 6 = .ok (.ifCond .eq 7, 3) := by decide +kernel
theorem dX5_kindOf_9 : decode cX5_kindOf 9 = .ok (.iconst 0, 1) := by decide +kernel
theorem dX5_kindOf_10 : decode cX5_kindOf 10 = .ok (.goto 4, 3) := by decide +kernel
theorem dX5_kindOf_13 : decode cX5_kindOf 13 = .ok (.iconst 1, 1) := by decide +kernel
theorem dX5_kindOf_14 : decode cX5_kindOf 14 = .ok (.putfield 80, 3) := by decide +kernel
theorem dX5_kindOf_17 : decode cX5_kindOf 17 = .ok (.aload_n 0, 1) := by decide +kernel
theorem dX5_kindOf_18 : decode cX5_kindOf 18 = .ok (.getfield 80, 3) := by decide +kernel
theorem dX5_kindOf_21 : decode cX5_kindOf 21 = .ok (.ifCond .le 7, 3) := by decide +kernel
theorem dX5_kindOf_24 : decode cX5_kindOf 24 = .ok (.iconst 0, 1) := by decide +kernel
theorem dX5_kindOf_25 : decode cX5_kindOf 25 = .ok (.goto 9, 3) := by decide +kernel
theorem dX5_kindOf_28 : decode cX5_kindOf 28 = .ok (.aload_n 0, 1) := by decide +kernel
theorem dX5_kindOf_29 : decode cX5_kindOf 29 = .ok (.getfield 13, 3) := by decide +kernel
theorem dX5_kindOf_32 : decode cX5_kindOf 32 = .ok (.iload_n 1, 1) := by decide +kernel
theorem dX5_kindOf_33 : decode cX5_kindOf 33 = .ok (.iaload, 1) := by decide +kernel
theorem dX5_kindOf_34 : decode cX5_kindOf 34 = .ok (.i2c, 1) := by decide +kernel
theorem dX5_kindOf_35 : decode cX5_kindOf 35 = .ok (.ireturn, 1) := by decide +kernel
theorem dX5_vehicles_0 : decode cX5_vehicles 0 = .ok (.aload_n 0, 1) := by decide +kernel
theorem dX5_vehicles_1 : decode cX5_vehicles 1 = .ok (.iconst 0, 1) := by decide +kernel
theorem dX5_vehicles_2 : decode cX5_vehicles 2 = .ok (.putfield 80, 3) := by decide +kernel
theorem dX5_vehicles_5 : decode cX5_vehicles 5 = .ok (.aload_n 0, 1) := by decide +kernel
theorem dX5_vehicles_6 : decode cX5_vehicles 6 = .ok (.getfield 91, 3) := by decide +kernel
theorem dX5_vehicles_9 : decode cX5_vehicles 9 = .ok (.ireturn, 1) := by decide +kernel
theorem dX5_fit_0 : decode cX5_fit 0 = .ok (.aload_n 0, 1) := by decide +kernel
theorem dX5_fit_1 : decode cX5_fit 1 = .ok (.getfield 41, 3) := by decide +kernel
theorem dX5_fit_4 : decode cX5_fit 4 = .ok (.iload_n 1, 1) := by decide +kernel
theorem dX5_fit_5 : decode cX5_fit 5 = .ok (.iaload, 1) := by decide +kernel
theorem dX5_fit_6 : decode cX5_fit 6 = .ok (.istore_n 3, 1) := by decide +kernel
theorem dX5_fit_7 : decode cX5_fit 7 = .ok (.aload_n 0, 1) := by decide +kernel
theorem dX5_fit_8 : decode cX5_fit 8 = .ok (.getfield 47, 3) := by decide +kernel
theorem dX5_fit_11 : decode cX5_fit 11 = .ok (.iload_n 1, 1) := by decide +kernel
theorem dX5_fit_12 : decode cX5_fit 12 = .ok (.iaload, 1) := by decide +kernel
theorem dX5_fit_13 : decode cX5_fit 13 = .ok (.bipush 111, 2) := by decide +kernel
theorem dX5_fit_15 : decode cX5_fit 15 = .ok (.if_icmp .ne 38, 3) := by decide +kernel
theorem dX5_fit_18 : decode cX5_fit 18 = .ok (.aload_n 0, 1) := by decide +kernel
theorem dX5_fit_19 : decode cX5_fit 19 = .ok (.getfield 47, 3) := by decide +kernel
theorem dX5_fit_22 : decode cX5_fit 22 = .ok (.iload_n 2, 1) := by decide +kernel
theorem dX5_fit_23 : decode cX5_fit 23 = .ok (.iaload, 1) := by decide +kernel
theorem dX5_fit_24 : decode cX5_fit 24 = .ok (.bipush 111, 2) := by decide +kernel
theorem dX5_fit_26 : decode cX5_fit 26 = .ok (.if_icmp .ne 27, 3) := by decide +kernel
theorem dX5_fit_29 : decode cX5_fit 29 = .ok (.aload_n 0, 1) := by decide +kernel
theorem dX5_fit_30 : decode cX5_fit 30 = .ok (.getfield 35, 3) := by decide +kernel
theorem dX5_fit_33 : decode cX5_fit 33 = .ok (.iload_n 1, 1) := by decide +kernel
theorem dX5_fit_34 : decode cX5_fit 34 = .ok (.iaload, 1) := by decide +kernel
theorem dX5_fit_35 : decode cX5_fit 35 = .ok (.iconst (-1), 1) := by decide +kernel
theorem dX5_fit_36 : decode cX5_fit 36 = .ok (.if_icmp .eq 17, 3) := by decide +kernel
theorem dX5_fit_39 : decode cX5_fit 39 = .ok (.aload_n 0, 1) := by decide +kernel
theorem dX5_fit_40 : decode cX5_fit 40 = .ok (.getfield 35, 3) := by decide +kernel
theorem dX5_fit_43 : decode cX5_fit 43 = .ok (.iload_n 2, 1) := by decide +kernel
theorem dX5_fit_44 : decode cX5_fit 44 = .ok (.iaload, 1) := by decide +kernel
theorem dX5_fit_45 : decode cX5_fit 45 = .ok (.iconst (-1), 1) := by decide +kernel
theorem dX5_fit_46 : decode cX5_fit 46 = .ok (.if_icmp .ne 7, 3) := by decide +kernel
theorem dX5_fit_49 : decode cX5_fit 49 = .ok (.iconst 1, 1) := by decide +kernel
theorem dX5_fit_50 : decode cX5_fit 50 = .ok (.goto 4, 3) := by decide +kernel
theorem dX5_fit_53 : decode cX5_fit 53 = .ok (.iconst 0, 1) := by decide +kernel
theorem dX5_fit_54 : decode cX5_fit 54 = .ok (.istore 4, 2) := by decide +kernel
theorem dX5_fit_56 : decode cX5_fit 56 = .ok (.aload_n 0, 1) := by decide +kernel
theorem dX5_fit_57 : decode cX5_fit 57 = .ok (.getfield 41, 3) := by decide +kernel
theorem dX5_fit_60 : decode cX5_fit 60 = .ok (.iload_n 2, 1) := by decide +kernel
theorem dX5_fit_61 : decode cX5_fit 61 = .ok (.iaload, 1) := by decide +kernel
theorem dX5_fit_62 : decode cX5_fit 62 = .ok (.iload_n 3, 1) := by decide +kernel
theorem dX5_fit_63 : decode cX5_fit 63 = .ok (.if_icmp .ne 45, 3) := by decide +kernel
theorem dX5_fit_66 : decode cX5_fit 66 = .ok (.aload_n 0, 1) := by decide +kernel
theorem dX5_fit_67 : decode cX5_fit 67 = .ok (.getfield 38, 3) := by decide +kernel
theorem dX5_fit_70 : decode cX5_fit 70 = .ok (.iload_n 1, 1) := by decide +kernel
theorem dX5_fit_71 : decode cX5_fit 71 = .ok (.iaload, 1) := by decide +kernel
theorem dX5_fit_72 : decode cX5_fit 72 = .ok (.aload_n 0, 1) := by decide +kernel
theorem dX5_fit_73 : decode cX5_fit 73 = .ok (.getfield 38, 3) := by decide +kernel
theorem dX5_fit_76 : decode cX5_fit 76 = .ok (.iload_n 2, 1) := by decide +kernel
theorem dX5_fit_77 : decode cX5_fit 77 = .ok (.iaload, 1) := by decide +kernel
theorem dX5_fit_78 : decode cX5_fit 78 = .ok (.if_icmp .ne 30, 3) := by decide +kernel
theorem dX5_fit_81 : decode cX5_fit 81 = .ok (.aload_n 0, 1) := by decide +kernel
theorem dX5_fit_82 : decode cX5_fit 82 = .ok (.getfield 44, 3) := by decide +kernel
theorem dX5_fit_85 : decode cX5_fit 85 = .ok (.iload_n 1, 1) := by decide +kernel
theorem dX5_fit_86 : decode cX5_fit 86 = .ok (.iaload, 1) := by decide +kernel
theorem dX5_fit_87 : decode cX5_fit 87 = .ok (.aload_n 0, 1) := by decide +kernel
theorem dX5_fit_88 : decode cX5_fit 88 = .ok (.getfield 44, 3) := by decide +kernel
theorem dX5_fit_91 : decode cX5_fit 91 = .ok (.iload_n 2, 1) := by decide +kernel
theorem dX5_fit_92 : decode cX5_fit 92 = .ok (.iaload, 1) := by decide +kernel
theorem dX5_fit_93 : decode cX5_fit 93 = .ok (.isub, 1) := by decide +kernel
theorem dX5_fit_94 : decode cX5_fit 94 = .ok (.bipush (-7), 2) := by decide +kernel
theorem dX5_fit_96 : decode cX5_fit 96 = .ok (.bipush 7, 2) := by decide +kernel
theorem dX5_fit_98 : decode cX5_fit 98 = .ok (.invokestatic 87, 3) := by decide +kernel
theorem dX5_fit_101 : decode cX5_fit 101 = .ok (.ifCond .eq 7, 3) := by decide +kernel
theorem dX5_fit_104 : decode cX5_fit 104 = .ok (.iconst 1, 1) := by decide +kernel
theorem dX5_fit_105 : decode cX5_fit 105 = .ok (.goto 4, 3) := by decide +kernel
theorem dX5_fit_108 : decode cX5_fit 108 = .ok (.iconst 0, 1) := by decide +kernel
theorem dX5_fit_109 : decode cX5_fit 109 = .ok (.istore 5, 2) := by decide +kernel
theorem dX5_fit_111 : decode cX5_fit 111 = .ok (.iload 4, 2) := by decide +kernel
theorem dX5_fit_113 : decode cX5_fit 113 = .ok (.ifCond .eq 48, 3) := by decide +kernel
theorem dX5_fit_116 : decode cX5_fit 116 = .ok (.iload 5, 2) := by decide +kernel
theorem dX5_fit_118 : decode cX5_fit 118 = .ok (.ifCond .eq 43, 3) := by decide +kernel
theorem dX5_fit_121 : decode cX5_fit 121 = .ok (.aload_n 0, 1) := by decide +kernel
theorem dX5_fit_122 : decode cX5_fit 122 = .ok (.getfield 35, 3) := by decide +kernel
theorem dX5_fit_125 : decode cX5_fit 125 = .ok (.iload_n 1, 1) := by decide +kernel
theorem dX5_fit_126 : decode cX5_fit 126 = .ok (.iaload, 1) := by decide +kernel
theorem dX5_fit_127 : decode cX5_fit 127 = .ok (.aload_n 0, 1) := by decide +kernel
theorem dX5_fit_128 : decode cX5_fit 128 = .ok (.iload_n 3, 1) := by decide +kernel
theorem dX5_fit_129 : decode cX5_fit 129 = .ok (.invokevirtual 160, 3) := by decide +kernel
theorem dX5_fit_132 : decode cX5_fit 132 = .ok (.if_icmp .ne 29, 3) := by decide +kernel
theorem dX5_fit_135 : decode cX5_fit 135 = .ok (.aload_n 0, 1) := by decide +kernel
theorem dX5_fit_136 : decode cX5_fit 136 = .ok (.getfield 44, 3) := by decide +kernel
theorem dX5_fit_139 : decode cX5_fit 139 = .ok (.iload_n 1, 1) := by decide +kernel
theorem dX5_fit_140 : decode cX5_fit 140 = .ok (.iaload, 1) := by decide +kernel
theorem dX5_fit_141 : decode cX5_fit 141 = .ok (.aload_n 0, 1) := by decide +kernel
theorem dX5_fit_142 : decode cX5_fit 142 = .ok (.iload_n 3, 1) := by decide +kernel
theorem dX5_fit_143 : decode cX5_fit 143 = .ok (.invokevirtual 163, 3) := by decide +kernel
theorem dX5_fit_146 : decode cX5_fit 146 = .ok (.if_icmp .lt 15, 3) := by decide +kernel
theorem dX5_fit_149 : decode cX5_fit 149 = .ok (.aload_n 0, 1) := by decide +kernel
theorem dX5_fit_150 : decode cX5_fit 150 = .ok (.iload_n 3, 1) := by decide +kernel
theorem dX5_fit_151 : decode cX5_fit 151 = .ok (.invokevirtual 157, 3) := by decide +kernel
theorem dX5_fit_154 : decode cX5_fit 154 = .ok (.ifCond .ne 7, 3) := by decide +kernel
theorem dX5_fit_157 : decode cX5_fit 157 = .ok (.iconst 1, 1) := by decide +kernel
theorem dX5_fit_158 : decode cX5_fit 158 = .ok (.goto 4, 3) := by decide +kernel
theorem dX5_fit_161 : decode cX5_fit 161 = .ok (.iconst 0, 1) := by decide +kernel
theorem dX5_fit_162 : decode cX5_fit 162 = .ok (.ireturn, 1) := by decide +kernel
theorem dX5_usesPair_0 : decode cX5_usesPair 0 = .ok (.iconst 0, 1) := by decide +kernel
theorem dX5_usesPair_1 : decode cX5_usesPair 1 = .ok (.istore_n 2, 1) := by decide +kernel
theorem dX5_usesPair_2 : decode cX5_usesPair 2 = .ok (.iload_n 2, 1) := by decide +kernel
theorem dX5_usesPair_3 : decode cX5_usesPair 3 = .ok (.aload_n 0, 1) := by decide +kernel
theorem dX5_usesPair_4 : decode cX5_usesPair 4 = .ok (.getfield 166, 3) := by decide +kernel
theorem dX5_usesPair_7 : decode cX5_usesPair 7 = .ok (.if_icmp .ge 99, 3) := by decide +kernel
theorem dX5_usesPair_10 : decode cX5_usesPair 10 = .ok (.aload_n 0, 1) := by decide +kernel
theorem dX5_usesPair_11 : decode cX5_usesPair 11 = .ok (.getfield 41, 3) := by decide +kernel
theorem dX5_usesPair_14 : decode cX5_usesPair 14 = .ok (.iload_n 2, 1) := by decide +kernel
theorem dX5_usesPair_15 : decode cX5_usesPair 15 = .ok (.iaload, 1) := by decide +kernel
theorem dX5_usesPair_16 : decode cX5_usesPair 16 = .ok (.iload_n 1, 1) := by decide +kernel
theorem dX5_usesPair_17 : decode cX5_usesPair 17 = .ok (.if_icmp .eq 6, 3) := by decide +kernel
theorem dX5_usesPair_20 : decode cX5_usesPair 20 = .ok (.goto 80, 3) := by decide +kernel
theorem dX5_usesPair_23 : decode cX5_usesPair 23 = .ok (.iconst 0, 1) := by decide +kernel
theorem dX5_usesPair_24 : decode cX5_usesPair 24 = .ok (.istore_n 3, 1) := by decide +kernel
theorem dX5_usesPair_25 : decode cX5_usesPair 25 = .ok (.iload_n 3, 1) := by decide +kernel
theorem dX5_usesPair_26 : decode cX5_usesPair 26 = .ok (.aload_n 0, 1) := by decide +kernel
theorem dX5_usesPair_27 : decode cX5_usesPair 27 = .ok (.getfield 166, 3) := by decide +kernel
theorem dX5_usesPair_30 : decode cX5_usesPair 30 = .ok (.if_icmp .ge 70, 3) := by decide +kernel
theorem dX5_usesPair_33 : decode cX5_usesPair 33 = .ok (.aload_n 0, 1) := by decide +kernel
theorem dX5_usesPair_34 : decode cX5_usesPair 34 = .ok (.iload_n 2, 1) := by decide +kernel
theorem dX5_usesPair_35 : decode cX5_usesPair 35 = .ok (.iload_n 3, 1) := by decide +kernel
theorem dX5_usesPair_36 : decode cX5_usesPair 36 = .ok (.invokevirtual 169, 3) := by decide +kernel
theorem dX5_usesPair_39 : decode cX5_usesPair 39 = .ok (.ifCond .ne 6, 3) := by decide +kernel
theorem dX5_usesPair_42 : decode cX5_usesPair 42 = .ok (.goto 52, 3) := by decide +kernel
theorem dX5_usesPair_45 : decode cX5_usesPair 45 = .ok (.aload_n 0, 1) := by decide +kernel
theorem dX5_usesPair_46 : decode cX5_usesPair 46 = .ok (.getfield 47, 3) := by decide +kernel
theorem dX5_usesPair_49 : decode cX5_usesPair 49 = .ok (.iload_n 2, 1) := by decide +kernel
theorem dX5_usesPair_50 : decode cX5_usesPair 50 = .ok (.bipush 117, 2) := by decide +kernel
theorem dX5_usesPair_52 : decode cX5_usesPair 52 = .ok (.iastore, 1) := by decide +kernel
theorem dX5_usesPair_53 : decode cX5_usesPair 53 = .ok (.aload_n 0, 1) := by decide +kernel
theorem dX5_usesPair_54 : decode cX5_usesPair 54 = .ok (.getfield 47, 3) := by decide +kernel
theorem dX5_usesPair_57 : decode cX5_usesPair 57 = .ok (.iload_n 3, 1) := by decide +kernel
theorem dX5_usesPair_58 : decode cX5_usesPair 58 = .ok (.bipush 117, 2) := by decide +kernel
theorem dX5_usesPair_60 : decode cX5_usesPair 60 = .ok (.iastore, 1) := by decide +kernel
theorem dX5_usesPair_61 : decode cX5_usesPair 61 = .ok (.aload_n 0, 1) := by decide +kernel
theorem dX5_usesPair_62 : decode cX5_usesPair 62 = .ok (.getfield 50, 3) := by decide +kernel
theorem dX5_usesPair_65 : decode cX5_usesPair 65 = .ok (.iload_n 2, 1) := by decide +kernel
theorem dX5_usesPair_66 : decode cX5_usesPair 66 = .ok (.iload_n 3, 1) := by decide +kernel
theorem dX5_usesPair_67 : decode cX5_usesPair 67 = .ok (.iastore, 1) := by decide +kernel
theorem dX5_usesPair_68 : decode cX5_usesPair 68 = .ok (.aload_n 0, 1) := by decide +kernel
theorem dX5_usesPair_69 : decode cX5_usesPair 69 = .ok (.getfield 50, 3) := by decide +kernel
theorem dX5_usesPair_72 : decode cX5_usesPair 72 = .ok (.iload_n 3, 1) := by decide +kernel
theorem dX5_usesPair_73 : decode cX5_usesPair 73 = .ok (.iload_n 2, 1) := by decide +kernel
theorem dX5_usesPair_74 : decode cX5_usesPair 74 = .ok (.iastore, 1) := by decide +kernel
theorem dX5_usesPair_75 : decode cX5_usesPair 75 = .ok (.aload_n 0, 1) := by decide +kernel
theorem dX5_usesPair_76 : decode cX5_usesPair 76 = .ok (.iload_n 1, 1) := by decide +kernel
theorem dX5_usesPair_77 : decode cX5_usesPair 77 = .ok (.aload_n 0, 1) := by decide +kernel
theorem dX5_usesPair_78 : decode cX5_usesPair 78 = .ok (.getfield 44, 3) := by decide +kernel
theorem dX5_usesPair_81 : decode cX5_usesPair 81 = .ok (.iload_n 2, 1) := by decide +kernel
theorem dX5_usesPair_82 : decode cX5_usesPair 82 = .ok (.iaload, 1) := by decide +kernel
theorem dX5_usesPair_83 : decode cX5_usesPair 83 = .ok (.aload_n 0, 1) := by decide +kernel
theorem dX5_usesPair_84 : decode cX5_usesPair 84 = .ok (.getfield 38, 3) := by decide +kernel
theorem dX5_usesPair_87 : decode cX5_usesPair 87 = .ok (.iload_n 2, 1) := by decide +kernel
theorem dX5_usesPair_88 : decode cX5_usesPair 88 = .ok (.iaload, 1) := by decide +kernel
theorem dX5_usesPair_89 : decode cX5_usesPair 89 = .ok (.invokevirtual 132, 3) := by decide +kernel
theorem dX5_usesPair_92 : decode cX5_usesPair 92 = .ok (.iconst 1, 1) := by decide +kernel
theorem dX5_usesPair_93 : decode cX5_usesPair 93 = .ok (.ireturn, 1) := by decide +kernel
theorem dX5_usesPair_94 : decode cX5_usesPair 94 = .ok (.iinc 3 1, 3) := by decide +kernel
theorem dX5_usesPair_97 : decode cX5_usesPair 97 = .ok (.goto (-72), 3) := by decide +kernel
theorem dX5_usesPair_100 : decode cX5_usesPair 100 = .ok (.iinc 2 1, 3) := by decide +kernel
theorem dX5_usesPair_103 : decode cX5_usesPair 103 = .ok (.goto (-101), 3) := by decide +kernel
theorem dX5_usesPair_106 : decode cX5_usesPair 106 = .ok (.iconst 0, 1) := by decide +kernel
theorem dX5_usesPair_107 : decode cX5_usesPair 107 = .ok (.ireturn, 1) := by decide +kernel
theorem dX5_crosses_0 : decode cX5_crosses 0 = .ok (.iconst 1, 1) := by decide +kernel
theorem dX5_crosses_1 : decode cX5_crosses 1 = .ok (.istore_n 2, 1) := by decide +kernel
theorem dX5_crosses_2 : decode cX5_crosses 2 = .ok (.iload_n 2, 1) := by decide +kernel
theorem dX5_crosses_3 : decode cX5_crosses 3 = .ok (.ifCond .eq 12, 3) := by decide +kernel
theorem dX5_crosses_6 : decode cX5_crosses 6 = .ok (.aload_n 0, 1) := by decide +kernel
theorem dX5_crosses_7 : decode cX5_crosses 7 = .ok (.iload_n 1, 1) := by decide +kernel
theorem dX5_crosses_8 : decode cX5_crosses 8 = .ok (.invokevirtual 172, 3) := by decide +kernel
theorem dX5_crosses_11 : decode cX5_crosses 11 = .ok (.istore_n 2, 1) := by decide +kernel
theorem dX5_crosses_12 : decode cX5_crosses 12 = .ok (.goto (-10), 3) := by decide +kernel
theorem dX5_crosses_15 : decode cX5_crosses 15 = .ok (.return_, 1) := by decide +kernel
theorem dX5_enters_0 : decode cX5_enters 0 = .ok (.aload_n 0, 1) := by decide +kernel
theorem dX5_enters_1 : decode cX5_enters 1 = .ok (.iconst 0, 1) := by decide +kernel
theorem dX5_enters_2 : decode cX5_enters 2 = .ok (.putfield 80, 3) := by decide +kernel
theorem dX5_enters_5 : decode cX5_enters 5 = .ok (.aload_n 0, 1) := by decide +kernel
theorem dX5_enters_6 : decode cX5_enters 6 = .ok (.getfield 35, 3) := by decide +kernel
theorem dX5_enters_9 : decode cX5_enters 9 = .ok (.aload_n 0, 1) := by decide +kernel
theorem dX5_enters_10 : decode cX5_enters 10 = .ok (.getfield 166, 3) := by decide +kernel
theorem dX5_enters_13 : decode cX5_enters 13 = .ok (.iload_n 1, 1) := by decide +kernel
theorem dX5_enters_14 : decode cX5_enters 14 = .ok (.iastore, 1) := by decide +kernel
theorem dX5_enters_15 : decode cX5_enters 15 = .ok (.aload_n 0, 1) := by decide +kernel
theorem dX5_enters_16 : decode cX5_enters 16 = .ok (.getfield 38, 3) := by decide +kernel
theorem dX5_enters_19 : decode cX5_enters 19 = .ok (.aload_n 0, 1) := by decide +kernel
theorem dX5_enters_20 : decode cX5_enters 20 = .ok (.getfield 166, 3) := by decide +kernel
theorem dX5_enters_23 : decode cX5_enters 23 = .ok (.iload_n 3, 1) := by decide +kernel
theorem dX5_enters_24 : decode cX5_enters 24 = .ok (.iastore, 1) := by decide +kernel
theorem dX5_enters_25 : decode cX5_enters 25 = .ok (.aload_n 0, 1) := by decide +kernel
theorem dX5_enters_26 : decode cX5_enters 26 = .ok (.getfield 41, 3) := by decide +kernel
theorem dX5_enters_29 : decode cX5_enters 29 = .ok (.aload_n 0, 1) := by decide +kernel
theorem dX5_enters_30 : decode cX5_enters 30 = .ok (.getfield 166, 3) := by decide +kernel
theorem dX5_enters_33 : decode cX5_enters 33 = .ok (.iload_n 2, 1) := by decide +kernel
theorem dX5_enters_34 : decode cX5_enters 34 = .ok (.iastore, 1) := by decide +kernel
theorem dX5_enters_35 : decode cX5_enters 35 = .ok (.aload_n 0, 1) := by decide +kernel
theorem dX5_enters_36 : decode cX5_enters 36 = .ok (.getfield 44, 3) := by decide +kernel
theorem dX5_enters_39 : decode cX5_enters 39 = .ok (.aload_n 0, 1) := by decide +kernel
theorem dX5_enters_40 : decode cX5_enters 40 = .ok (.getfield 166, 3) := by decide +kernel
theorem dX5_enters_43 : decode cX5_enters 43 = .ok (.iload 4, 2) := by decide +kernel
theorem dX5_enters_45 : decode cX5_enters 45 = .ok (.iastore, 1) := by decide +kernel
theorem dX5_enters_46 : decode cX5_enters 46 = .ok (.aload_n 0, 1) := by decide +kernel
theorem dX5_enters_47 : decode cX5_enters 47 = .ok (.getfield 47, 3) := by decide +kernel
theorem dX5_enters_50 : decode cX5_enters 50 = .ok (.aload_n 0, 1) := by decide +kernel
theorem dX5_enters_51 : decode cX5_enters 51 = .ok (.getfield 166, 3) := by decide +kernel
theorem dX5_enters_54 : decode cX5_enters 54 = .ok (.bipush 111, 2) := by decide +kernel
theorem dX5_enters_56 : decode cX5_enters 56 = .ok (.iastore, 1) := by decide +kernel
theorem dX5_enters_57 : decode cX5_enters 57 = .ok (.aload_n 0, 1) := by decide +kernel
theorem dX5_enters_58 : decode cX5_enters 58 = .ok (.dup, 1) := by decide +kernel
theorem dX5_enters_59 : decode cX5_enters 59 = .ok (.getfield 166, 3) := by decide +kernel
theorem dX5_enters_62 : decode cX5_enters 62 = .ok (.iconst 1, 1) := by decide +kernel
theorem dX5_enters_63 : decode cX5_enters 63 = .ok (.iadd, 1) := by decide +kernel
theorem dX5_enters_64 : decode cX5_enters 64 = .ok (.putfield 166, 3) := by decide +kernel
theorem dX5_enters_67 : decode cX5_enters 67 = .ok (.aload_n 0, 1) := by decide +kernel
theorem dX5_enters_68 : decode cX5_enters 68 = .ok (.getfield 166, 3) := by decide +kernel
theorem dX5_enters_71 : decode cX5_enters 71 = .ok (.iconst 1, 1) := by decide +kernel
theorem dX5_enters_72 : decode cX5_enters 72 = .ok (.isub, 1) := by decide +kernel
theorem dX5_enters_73 : decode cX5_enters 73 = .ok (.istore 5, 2) := by decide +kernel
theorem dX5_enters_75 : decode cX5_enters 75 = .ok (.aload_n 0, 1) := by decide +kernel
theorem dX5_enters_76 : decode cX5_enters 76 = .ok (.iload_n 2, 1) := by decide +kernel
theorem dX5_enters_77 : decode cX5_enters 77 = .ok (.invokevirtual 175, 3) := by decide +kernel
theorem dX5_enters_80 : decode cX5_enters 80 = .ok (.iload 5, 2) := by decide +kernel
theorem dX5_enters_82 : decode cX5_enters 82 = .ok (.ireturn, 1) := by decide +kernel
theorem dX5_sell_0 : decode cX5_sell 0 = .ok (.aload_n 0, 1) := by decide +kernel
theorem dX5_sell_1 : decode cX5_sell 1 = .ok (.iload_n 1, 1) := by decide +kernel
theorem dX5_sell_2 : decode cX5_sell 2 = .ok (.invokevirtual 124, 3) := by decide +kernel
theorem dX5_sell_5 : decode cX5_sell 5 = .ok (.ifCond .eq 19, 3) := by decide +kernel
theorem dX5_sell_8 : decode cX5_sell 8 = .ok (.aload_n 0, 1) := by decide +kernel
theorem dX5_sell_9 : decode cX5_sell 9 = .ok (.iload_n 3, 1) := by decide +kernel
theorem dX5_sell_10 : decode cX5_sell 10 = .ok (.invokevirtual 124, 3) := by decide +kernel
theorem dX5_sell_13 : decode cX5_sell 13 = .ok (.ifCond .eq 11, 3) := by decide +kernel
theorem dX5_sell_16 : decode cX5_sell 16 = .ok (.aload_n 0, 1) := by decide +kernel
theorem dX5_sell_17 : decode cX5_sell 17 = .ok (.iload_n 2, 1) := by decide +kernel
theorem dX5_sell_18 : decode cX5_sell 18 = .ok (.invokevirtual 147, 3) := by decide +kernel
theorem dX5_sell_21 : decode cX5_sell 21 = .ok (.ifCond .ne 9, 3) := by decide +kernel
theorem dX5_sell_24 : decode cX5_sell 24 = .ok (.aload_n 0, 1) := by decide +kernel
theorem dX5_sell_25 : decode cX5_sell 25 = .ok (.iconst 1, 1) := by decide +kernel
theorem dX5_sell_26 : decode cX5_sell 26 = .ok (.invokevirtual 116, 3) := by decide +kernel
theorem dX5_sell_29 : decode cX5_sell 29 = .ok (.ireturn, 1) := by decide +kernel
theorem dX5_sell_30 : decode cX5_sell 30 = .ok (.aload_n 0, 1) := by decide +kernel
theorem dX5_sell_31 : decode cX5_sell 31 = .ok (.iload 4, 2) := by decide +kernel
theorem dX5_sell_33 : decode cX5_sell 33 = .ok (.invokevirtual 154, 3) := by decide +kernel
theorem dX5_sell_36 : decode cX5_sell 36 = .ok (.ifCond .ne 9, 3) := by decide +kernel
theorem dX5_sell_39 : decode cX5_sell 39 = .ok (.aload_n 0, 1) := by decide +kernel
theorem dX5_sell_40 : decode cX5_sell 40 = .ok (.iconst 2, 1) := by decide +kernel
theorem dX5_sell_41 : decode cX5_sell 41 = .ok (.invokevirtual 116, 3) := by decide +kernel
theorem dX5_sell_44 : decode cX5_sell 44 = .ok (.ireturn, 1) := by decide +kernel
theorem dX5_sell_45 : decode cX5_sell 45 = .ok (.iload_n 1, 1) := by decide +kernel
theorem dX5_sell_46 : decode cX5_sell 46 = .ok (.iload_n 3, 1) := by decide +kernel
theorem dX5_sell_47 : decode cX5_sell 47 = .ok (.if_icmp .ne 9, 3) := by decide +kernel
theorem dX5_sell_50 : decode cX5_sell 50 = .ok (.aload_n 0, 1) := by decide +kernel
theorem dX5_sell_51 : decode cX5_sell 51 = .ok (.iconst 3, 1) := by decide +kernel
theorem dX5_sell_52 : decode cX5_sell 52 = .ok (.invokevirtual 116, 3) := by decide +kernel
theorem dX5_sell_55 : decode cX5_sell 55 = .ok (.ireturn, 1) := by decide +kernel
theorem dX5_sell_56 : decode cX5_sell 56 = .ok (.aload_n 0, 1) := by decide +kernel
theorem dX5_sell_57 : decode cX5_sell 57 = .ok (.getfield 166, 3) := by decide +kernel
theorem dX5_sell_60 : decode cX5_sell 60 = .ok (.bipush 120, 2) := by decide +kernel
theorem dX5_sell_62 : decode cX5_sell 62 = .ok (.if_icmp .ne 11, 3) := by decide +kernel
theorem dX5_sell_65 : decode cX5_sell 65 = .ok (.aload_n 0, 1) := by decide +kernel
theorem dX5_sell_66 : decode cX5_sell 66 = .ok (.iconst 4, 1) := by decide +kernel
theorem dX5_sell_67 : decode cX5_sell 67 = .ok (.invokevirtual 116, 3) := by decide +kernel
theorem dX5_sell_70 : decode cX5_sell 70 = .ok (.goto 12, 3) := by decide +kernel
theorem dX5_sell_73 : decode cX5_sell 73 = .ok (.aload_n 0, 1) := by decide +kernel
theorem dX5_sell_74 : decode cX5_sell 74 = .ok (.iload_n 1, 1) := by decide +kernel
theorem dX5_sell_75 : decode cX5_sell 75 = .ok (.iload_n 2, 1) := by decide +kernel
theorem dX5_sell_76 : decode cX5_sell 76 = .ok (.iload_n 3, 1) := by decide +kernel
theorem dX5_sell_77 : decode cX5_sell 77 = .ok (.iload 4, 2) := by decide +kernel
theorem dX5_sell_79 : decode cX5_sell 79 = .ok (.invokevirtual 179, 3) := by decide +kernel
theorem dX5_sell_82 : decode cX5_sell 82 = .ok (.ireturn, 1) := by decide +kernel
theorem dX5_buy_0 : decode cX5_buy 0 = .ok (.aload_n 0, 1) := by decide +kernel
theorem dX5_buy_1 : decode cX5_buy 1 = .ok (.iload_n 1, 1) := by decide +kernel
theorem dX5_buy_2 : decode cX5_buy 2 = .ok (.invokevirtual 124, 3) := by decide +kernel
theorem dX5_buy_5 : decode cX5_buy 5 = .ok (.ifCond .eq 11, 3) := by decide +kernel
theorem dX5_buy_8 : decode cX5_buy 8 = .ok (.aload_n 0, 1) := by decide +kernel
theorem dX5_buy_9 : decode cX5_buy 9 = .ok (.iload_n 2, 1) := by decide +kernel
theorem dX5_buy_10 : decode cX5_buy 10 = .ok (.invokevirtual 147, 3) := by decide +kernel
theorem dX5_buy_13 : decode cX5_buy 13 = .ok (.ifCond .ne 9, 3) := by decide +kernel
theorem dX5_buy_16 : decode cX5_buy 16 = .ok (.aload_n 0, 1) := by decide +kernel
theorem dX5_buy_17 : decode cX5_buy 17 = .ok (.iconst 1, 1) := by decide +kernel
theorem dX5_buy_18 : decode cX5_buy 18 = .ok (.invokevirtual 116, 3) := by decide +kernel
theorem dX5_buy_21 : decode cX5_buy 21 = .ok (.ireturn, 1) := by decide +kernel
theorem dX5_buy_22 : decode cX5_buy 22 = .ok (.aload_n 0, 1) := by decide +kernel
theorem dX5_buy_23 : decode cX5_buy 23 = .ok (.iload_n 3, 1) := by decide +kernel
theorem dX5_buy_24 : decode cX5_buy 24 = .ok (.invokevirtual 154, 3) := by decide +kernel
theorem dX5_buy_27 : decode cX5_buy 27 = .ok (.ifCond .ne 9, 3) := by decide +kernel
theorem dX5_buy_30 : decode cX5_buy 30 = .ok (.aload_n 0, 1) := by decide +kernel
theorem dX5_buy_31 : decode cX5_buy 31 = .ok (.iconst 2, 1) := by decide +kernel
theorem dX5_buy_32 : decode cX5_buy 32 = .ok (.invokevirtual 116, 3) := by decide +kernel
theorem dX5_buy_35 : decode cX5_buy 35 = .ok (.ireturn, 1) := by decide +kernel
theorem dX5_buy_36 : decode cX5_buy 36 = .ok (.aload_n 0, 1) := by decide +kernel
theorem dX5_buy_37 : decode cX5_buy 37 = .ok (.getfield 166, 3) := by decide +kernel
theorem dX5_buy_40 : decode cX5_buy 40 = .ok (.bipush 120, 2) := by decide +kernel
theorem dX5_buy_42 : decode cX5_buy 42 = .ok (.if_icmp .ne 11, 3) := by decide +kernel
theorem dX5_buy_45 : decode cX5_buy 45 = .ok (.aload_n 0, 1) := by decide +kernel
theorem dX5_buy_46 : decode cX5_buy 46 = .ok (.iconst 3, 1) := by decide +kernel
theorem dX5_buy_47 : decode cX5_buy 47 = .ok (.invokevirtual 116, 3) := by decide +kernel
theorem dX5_buy_50 : decode cX5_buy 50 = .ok (.goto 11, 3) := by decide +kernel
theorem dX5_buy_53 : decode cX5_buy 53 = .ok (.aload_n 0, 1) := by decide +kernel
theorem dX5_buy_54 : decode cX5_buy 54 = .ok (.iconst (-1), 1) := by decide +kernel
theorem dX5_buy_55 : decode cX5_buy 55 = .ok (.iload_n 2, 1) := by decide +kernel
theorem dX5_buy_56 : decode cX5_buy 56 = .ok (.iload_n 1, 1) := by decide +kernel
theorem dX5_buy_57 : decode cX5_buy 57 = .ok (.iload_n 3, 1) := by decide +kernel
theorem dX5_buy_58 : decode cX5_buy 58 = .ok (.invokevirtual 179, 3) := by decide +kernel
theorem dX5_buy_61 : decode cX5_buy 61 = .ok (.ireturn, 1) := by decide +kernel
theorem dX5_open_0 : decode cX5_open 0 = .ok (.iconst 0, 1) := by decide +kernel
theorem dX5_open_1 : decode cX5_open 1 = .ok (.istore_n 2, 1) := by decide +kernel
theorem dX5_open_2 : decode cX5_open 2 = .ok (.iconst 0, 1) := by decide +kernel
theorem dX5_open_3 : decode cX5_open 3 = .ok (.istore_n 3, 1) := by decide +kernel
theorem dX5_open_4 : decode cX5_open 4 = .ok (.iload_n 3, 1) := by decide +kernel
theorem dX5_open_5 : decode cX5_open 5 = .ok (.aload_n 0, 1) := by decide +kernel
theorem dX5_open_6 : decode cX5_open 6 = .ok (.getfield 166, 3) := by decide +kernel
theorem dX5_open_9 : decode cX5_open 9 = .ok (.if_icmp .ge 43, 3) := by decide +kernel
theorem dX5_open_12 : decode cX5_open 12 = .ok (.iload_n 2, 1) := by decide +kernel
theorem dX5_open_13 : decode cX5_open 13 = .ok (.aload_n 0, 1) := by decide +kernel
theorem dX5_open_14 : decode cX5_open 14 = .ok (.getfield 47, 3) := by decide +kernel
theorem dX5_open_17 : decode cX5_open 17 = .ok (.iload_n 3, 1) := by decide +kernel
theorem dX5_open_18 : decode cX5_open 18 = .ok (.iaload, 1) := by decide +kernel
theorem dX5_open_19 : decode cX5_open 19 = .ok (.bipush 111, 2) := by decide +kernel
theorem dX5_open_21 : decode cX5_open 21 = .ok (.if_icmp .ne 22, 3) := by decide +kernel
theorem dX5_open_24 : decode cX5_open 24 = .ok (.iload_n 1, 1) := by decide +kernel
theorem dX5_open_25 : decode cX5_open 25 = .ok (.iconst (-1), 1) := by decide +kernel
theorem dX5_open_26 : decode cX5_open 26 = .ok (.if_icmp .eq 13, 3) := by decide +kernel
theorem dX5_open_29 : decode cX5_open 29 = .ok (.aload_n 0, 1) := by decide +kernel
theorem dX5_open_30 : decode cX5_open 30 = .ok (.getfield 41, 3) := by decide +kernel
theorem dX5_open_33 : decode cX5_open 33 = .ok (.iload_n 3, 1) := by decide +kernel
theorem dX5_open_34 : decode cX5_open 34 = .ok (.iaload, 1) := by decide +kernel
theorem dX5_open_35 : decode cX5_open 35 = .ok (.iload_n 1, 1) := by decide +kernel
theorem dX5_open_36 : decode cX5_open 36 = .ok (.if_icmp .ne 7, 3) := by decide +kernel
theorem dX5_open_39 : decode cX5_open 39 = .ok (.iconst 1, 1) := by decide +kernel
theorem dX5_open_40 : decode cX5_open 40 = .ok (.goto 4, 3) := by decide +kernel
theorem dX5_open_43 : decode cX5_open 43 = .ok (.iconst 0, 1) := by decide +kernel
theorem dX5_open_44 : decode cX5_open 44 = .ok (.iadd, 1) := by decide +kernel
theorem dX5_open_45 : decode cX5_open 45 = .ok (.istore_n 2, 1) := by decide +kernel
theorem dX5_open_46 : decode cX5_open 46 = .ok (.iinc 3 1, 3) := by decide +kernel
theorem dX5_open_49 : decode cX5_open 49 = .ok (.goto (-45), 3) := by decide +kernel
theorem dX5_open_52 : decode cX5_open 52 = .ok (.iload_n 2, 1) := by decide +kernel
theorem dX5_open_53 : decode cX5_open 53 = .ok (.ireturn, 1) := by decide +kernel
theorem dX5_isNotice_0 : decode cX5_isNotice 0 = .ok (.aload_n 0, 1) := by decide +kernel
theorem dX5_isNotice_1 : decode cX5_isNotice 1 = .ok (.iload_n 1, 1) := by decide +kernel
theorem dX5_isNotice_2 : decode cX5_isNotice 2 = .ok (.iconst 0, 1) := by decide +kernel
theorem dX5_isNotice_3 : decode cX5_isNotice 3 = .ok (.aload_n 0, 1) := by decide +kernel
theorem dX5_isNotice_4 : decode cX5_isNotice 4 = .ok (.getfield 166, 3) := by decide +kernel
theorem dX5_isNotice_7 : decode cX5_isNotice 7 = .ok (.iconst 1, 1) := by decide +kernel
theorem dX5_isNotice_8 : decode cX5_isNotice 8 = .ok (.isub, 1) := by decide +kernel
theorem dX5_isNotice_9 : decode cX5_isNotice 9 = .ok (.invokestatic 87, 3) := by decide +kernel
theorem dX5_isNotice_12 : decode cX5_isNotice 12 = .ok (.ifCond .eq 7, 3) := by decide +kernel
theorem dX5_isNotice_15 : decode cX5_isNotice 15 = .ok (.iconst 0, 1) := by decide +kernel
theorem dX5_isNotice_16 : decode cX5_isNotice 16 = .ok (.goto 4, 3) := by decide +kernel
theorem dX5_isNotice_19 : decode cX5_isNotice 19 = .ok (.iconst 1, 1) := by decide +kernel
theorem dX5_isNotice_20 : decode cX5_isNotice 20 = .ok (.putfield 80, 3) := by decide +kernel
theorem dX5_isNotice_23 : decode cX5_isNotice 23 = .ok (.aload_n 0, 1) := by decide +kernel
theorem dX5_isNotice_24 : decode cX5_isNotice 24 = .ok (.getfield 80, 3) := by decide +kernel
theorem dX5_isNotice_27 : decode cX5_isNotice 27 = .ok (.ifCond .ne 7, 3) := by decide +kernel
theorem dX5_isNotice_30 : decode cX5_isNotice 30 = .ok (.iconst 1, 1) := by decide +kernel
theorem dX5_isNotice_31 : decode cX5_isNotice 31 = .ok (.goto 4, 3) := by decide +kernel
theorem dX5_isNotice_34 : decode cX5_isNotice 34 = .ok (.iconst 0, 1) := by decide +kernel
theorem dX5_isNotice_35 : decode cX5_isNotice 35 = .ok (.ireturn, 1) := by decide +kernel
theorem dX5_withdraw_0 : decode cX5_withdraw 0 = .ok (.aload_n 0, 1) := by decide +kernel
theorem dX5_withdraw_1 : decode cX5_withdraw 1 = .ok (.iload_n 1, 1) := by decide +kernel
theorem dX5_withdraw_2 : decode cX5_withdraw 2 = .ok (.invokevirtual 183, 3) := by decide +kernel
theorem dX5_withdraw_5 : decode cX5_withdraw 5 = .ok (.ifCond .ne 5, 3) := by decide +kernel
theorem dX5_withdraw_8 : decode cX5_withdraw 8 = .ok (.iconst 0, 1) := by decide +kernel
theorem dX5_withdraw_9 : decode cX5_withdraw 9 = .ok (.ireturn, 1) := by decide +kernel
theorem dX5_withdraw_10 : decode cX5_withdraw 10 = .ok (.aload_n 0, 1) := by decide +kernel
theorem dX5_withdraw_11 : decode cX5_withdraw 11 = .ok (.getfield 47, 3) := by decide +kernel
theorem dX5_withdraw_14 : decode cX5_withdraw 14 = .ok (.iload_n 1, 1) := by decide +kernel
theorem dX5_withdraw_15 : decode cX5_withdraw 15 = .ok (.iaload, 1) := by decide +kernel
theorem dX5_withdraw_16 : decode cX5_withdraw 16 = .ok (.bipush 111, 2) := by decide +kernel
theorem dX5_withdraw_18 : decode cX5_withdraw 18 = .ok (.if_icmp .eq 9, 3) := by decide +kernel
theorem dX5_withdraw_21 : decode cX5_withdraw 21 = .ok (.aload_n 0, 1) := by decide +kernel
theorem dX5_withdraw_22 : decode cX5_withdraw 22 = .ok (.iconst 2, 1) := by decide +kernel
theorem dX5_withdraw_23 : decode cX5_withdraw 23 = .ok (.invokevirtual 116, 3) := by decide +kernel
theorem dX5_withdraw_26 : decode cX5_withdraw 26 = .ok (.ireturn, 1) := by decide +kernel
theorem dX5_withdraw_27 : decode cX5_withdraw 27 = .ok (.aload_n 0, 1) := by decide +kernel
theorem dX5_withdraw_28 : decode cX5_withdraw 28 = .ok (.getfield 47, 3) := by decide +kernel
theorem dX5_withdraw_31 : decode cX5_withdraw 31 = .ok (.iload_n 1, 1) := by decide +kernel
theorem dX5_withdraw_32 : decode cX5_withdraw 32 = .ok (.bipush 119, 2) := by decide +kernel
theorem dX5_withdraw_34 : decode cX5_withdraw 34 = .ok (.iastore, 1) := by decide +kernel
theorem dX5_withdraw_35 : decode cX5_withdraw 35 = .ok (.aload_n 0, 1) := by decide +kernel
theorem dX5_withdraw_36 : decode cX5_withdraw 36 = .ok (.iconst (-1), 1) := by decide +kernel
theorem dX5_withdraw_37 : decode cX5_withdraw 37 = .ok (.invokevirtual 186, 3) := by decide +kernel
theorem dX5_withdraw_40 : decode cX5_withdraw 40 = .ok (.ireturn, 1) := by decide +kernel
theorem dX5_stateOf_0 : decode cX5_stateOf 0 = .ok (.aload_n 0, 1) := by decide +kernel
theorem dX5_stateOf_1 : decode cX5_stateOf 1 = .ok (.iload_n 1, 1) := by decide +kernel
theorem dX5_stateOf_2 : decode cX5_stateOf 2 = .ok (.invokevirtual 183, 3) := by decide +kernel
theorem dX5_stateOf_5 : decode cX5_stateOf 5 = .ok (.ifCond .eq 12, 3) := by decide +kernel
theorem dX5_stateOf_8 : decode cX5_stateOf 8 = .ok (.aload_n 0, 1) := by decide +kernel
theorem dX5_stateOf_9 : decode cX5_stateOf 9 = .ok (.getfield 47, 3) := by decide +kernel
theorem dX5_stateOf_12 : decode cX5_stateOf 12 = .ok (.iload_n 1, 1) := by decide +kernel
theorem dX5_stateOf_13 : decode cX5_stateOf 13 = .ok (.iaload, 1) := by decide +kernel
theorem dX5_stateOf_14 : decode cX5_stateOf 14 = .ok (.goto 4, 3) := by decide +kernel
theorem dX5_stateOf_17 : decode cX5_stateOf 17 = .ok (.iconst 0, 1) := by decide +kernel
theorem dX5_stateOf_18 : decode cX5_stateOf 18 = .ok (.i2c, 1) := by decide +kernel
theorem dX5_stateOf_19 : decode cX5_stateOf 19 = .ok (.ireturn, 1) := by decide +kernel
theorem dX5_partnerOf_0 : decode cX5_partnerOf 0 = .ok (.aload_n 0, 1) := by decide +kernel
theorem dX5_partnerOf_1 : decode cX5_partnerOf 1 = .ok (.iload_n 1, 1) := by decide +kernel
theorem dX5_partnerOf_2 : decode cX5_partnerOf 2 = .ok (.invokevirtual 183, 3) := by decide +kernel
theorem dX5_partnerOf_5 : decode cX5_partnerOf 5 = .ok (.ifCond .ne 5, 3) := by decide +kernel
theorem dX5_partnerOf_8 : decode cX5_partnerOf 8 = .ok (.iconst 0, 1) := by decide +kernel
theorem dX5_partnerOf_9 : decode cX5_partnerOf 9 = .ok (.ireturn, 1) := by decide +kernel
theorem dX5_partnerOf_10 : decode cX5_partnerOf 10 = .ok (.aload_n 0, 1) := by decide +kernel
theorem dX5_partnerOf_11 : decode cX5_partnerOf 11 = .ok (.getfield 47, 3) := by decide +kernel
theorem dX5_partnerOf_14 : decode cX5_partnerOf 14 = .ok (.iload_n 1, 1) := by decide +kernel
theorem dX5_partnerOf_15 : decode cX5_partnerOf 15 = .ok (.iaload, 1) := by decide +kernel
theorem dX5_partnerOf_16 : decode cX5_partnerOf 16 = .ok (.bipush 117, 2) := by decide +kernel
theorem dX5_partnerOf_18 : decode cX5_partnerOf 18 = .ok (.if_icmp .ne 12, 3) := by decide +kernel
theorem dX5_partnerOf_21 : decode cX5_partnerOf 21 = .ok (.aload_n 0, 1) := by decide +kernel
theorem dX5_partnerOf_22 : decode cX5_partnerOf 22 = .ok (.getfield 50, 3) := by decide +kernel
theorem dX5_partnerOf_25 : decode cX5_partnerOf 25 = .ok (.iload_n 1, 1) := by decide +kernel
theorem dX5_partnerOf_26 : decode cX5_partnerOf 26 = .ok (.iaload, 1) := by decide +kernel
theorem dX5_partnerOf_27 : decode cX5_partnerOf 27 = .ok (.goto 8, 3) := by decide +kernel
theorem dX5_partnerOf_30 : decode cX5_partnerOf 30 = .ok (.aload_n 0, 1) := by decide +kernel
theorem dX5_partnerOf_31 : decode cX5_partnerOf 31 = .ok (.iconst 2, 1) := by decide +kernel
theorem dX5_partnerOf_32 : decode cX5_partnerOf 32 = .ok (.invokevirtual 116, 3) := by decide +kernel
theorem dX5_partnerOf_35 : decode cX5_partnerOf 35 = .ok (.ireturn, 1) := by decide +kernel
theorem dX5_isAsked_0 : decode cX5_isAsked 0 = .ok (.aload_n 0, 1) := by decide +kernel
theorem dX5_isAsked_1 : decode cX5_isAsked 1 = .ok (.aload_n 0, 1) := by decide +kernel
theorem dX5_isAsked_2 : decode cX5_isAsked 2 = .ok (.iload_n 1, 1) := by decide +kernel
theorem dX5_isAsked_3 : decode cX5_isAsked 3 = .ok (.invokevirtual 147, 3) := by decide +kernel
theorem dX5_isAsked_6 : decode cX5_isAsked 6 = .ok (.ifCond .eq 7, 3) := by decide +kernel
theorem dX5_isAsked_9 : decode cX5_isAsked 9 = .ok (.iconst 0, 1) := by decide +kernel
theorem dX5_isAsked_10 : decode cX5_isAsked 10 = .ok (.goto 4, 3) := by decide +kernel
theorem dX5_isAsked_13 : decode cX5_isAsked 13 = .ok (.iconst 1, 1) := by decide +kernel
theorem dX5_isAsked_14 : decode cX5_isAsked 14 = .ok (.putfield 80, 3) := by decide +kernel
theorem dX5_isAsked_17 : decode cX5_isAsked 17 = .ok (.aload_n 0, 1) := by decide +kernel
theorem dX5_isAsked_18 : decode cX5_isAsked 18 = .ok (.getfield 80, 3) := by decide +kernel
theorem dX5_isAsked_21 : decode cX5_isAsked 21 = .ok (.ifCond .ne 7, 3) := by decide +kernel
theorem dX5_isAsked_24 : decode cX5_isAsked 24 = .ok (.iconst 1, 1) := by decide +kernel
theorem dX5_isAsked_25 : decode cX5_isAsked 25 = .ok (.goto 4, 3) := by decide +kernel
theorem dX5_isAsked_28 : decode cX5_isAsked 28 = .ok (.iconst 0, 1) := by decide +kernel
theorem dX5_isAsked_29 : decode cX5_isAsked 29 = .ok (.ireturn, 1) := by decide +kernel
theorem dX5_openNotices_0 : decode cX5_openNotices 0 = .ok (.aload_n 0, 1) := by decide +kernel
theorem dX5_openNotices_1 : decode cX5_openNotices 1 = .ok (.iload_n 1, 1) := by decide +kernel
theorem dX5_openNotices_2 : decode cX5_openNotices 2 = .ok (.invokevirtual 189, 3) := by decide +kernel
theorem dX5_openNotices_5 : decode cX5_openNotices 5 = .ok (.ifCond .eq 11, 3) := by decide +kernel
theorem dX5_openNotices_8 : decode cX5_openNotices 8 = .ok (.aload_n 0, 1) := by decide +kernel
theorem dX5_openNotices_9 : decode cX5_openNotices 9 = .ok (.iload_n 1, 1) := by decide +kernel
theorem dX5_openNotices_10 : decode cX5_openNotices 10 = .ok (.invokevirtual 186, 3) := by decide +kernel
theorem dX5_openNotices_13 : decode cX5_openNotices 13 = .ok (.goto 4, 3) := by decide +kernel
theorem dX5_openNotices_16 : decode cX5_openNotices 16 = .ok (.iconst 0, 1) := by decide +kernel
theorem dX5_openNotices_17 : decode cX5_openNotices 17 = .ok (.ireturn, 1) := by decide +kernel
theorem dX5_keeperOn_0 : decode cX5_keeperOn 0 = .ok (.aload_n 0, 1) := by decide +kernel
theorem dX5_keeperOn_1 : decode cX5_keeperOn 1 = .ok (.iload_n 1, 1) := by decide +kernel
theorem dX5_keeperOn_2 : decode cX5_keeperOn 2 = .ok (.invokevirtual 189, 3) := by decide +kernel
theorem dX5_keeperOn_5 : decode cX5_keeperOn 5 = .ok (.ifCond .ne 5, 3) := by decide +kernel
theorem dX5_keeperOn_8 : decode cX5_keeperOn 8 = .ok (.iconst 0, 1) := by decide +kernel
theorem dX5_keeperOn_9 : decode cX5_keeperOn 9 = .ok (.ireturn, 1) := by decide +kernel
theorem dX5_keeperOn_10 : decode cX5_keeperOn 10 = .ok (.aload_n 0, 1) := by decide +kernel
theorem dX5_keeperOn_11 : decode cX5_keeperOn 11 = .ok (.iload_n 2, 1) := by decide +kernel
theorem dX5_keeperOn_12 : decode cX5_keeperOn 12 = .ok (.invokevirtual 154, 3) := by decide +kernel
theorem dX5_keeperOn_15 : decode cX5_keeperOn 15 = .ok (.ifCond .ne 9, 3) := by decide +kernel
theorem dX5_keeperOn_18 : decode cX5_keeperOn 18 = .ok (.aload_n 0, 1) := by decide +kernel
theorem dX5_keeperOn_19 : decode cX5_keeperOn 19 = .ok (.iconst 2, 1) := by decide +kernel
theorem dX5_keeperOn_20 : decode cX5_keeperOn 20 = .ok (.invokevirtual 116, 3) := by decide +kernel
theorem dX5_keeperOn_23 : decode cX5_keeperOn 23 = .ok (.ireturn, 1) := by decide +kernel
theorem dX5_keeperOn_24 : decode cX5_keeperOn 24 = .ok (.aload_n 0, 1) := by decide +kernel
theorem dX5_keeperOn_25 : decode cX5_keeperOn 25 = .ok (.iload_n 1, 1) := by decide +kernel
theorem dX5_keeperOn_26 : decode cX5_keeperOn 26 = .ok (.iload_n 2, 1) := by decide +kernel
theorem dX5_keeperOn_27 : decode cX5_keeperOn 27 = .ok (.invokevirtual 113, 3) := by decide +kernel
theorem dX5_keeperOn_30 : decode cX5_keeperOn 30 = .ok (.istore_n 3, 1) := by decide +kernel
theorem dX5_keeperOn_31 : decode cX5_keeperOn 31 = .ok (.iload_n 3, 1) := by decide +kernel
theorem dX5_keeperOn_32 : decode cX5_keeperOn 32 = .ok (.iconst (-1), 1) := by decide +kernel
theorem dX5_keeperOn_33 : decode cX5_keeperOn 33 = .ok (.if_icmp .ne 11, 3) := by decide +kernel
theorem dX5_keeperOn_36 : decode cX5_keeperOn 36 = .ok (.aload_n 0, 1) := by decide +kernel
theorem dX5_keeperOn_37 : decode cX5_keeperOn 37 = .ok (.iconst 3, 1) := by decide +kernel
theorem dX5_keeperOn_38 : decode cX5_keeperOn 38 = .ok (.invokevirtual 116, 3) := by decide +kernel
theorem dX5_keeperOn_41 : decode cX5_keeperOn 41 = .ok (.goto 4, 3) := by decide +kernel
theorem dX5_keeperOn_44 : decode cX5_keeperOn 44 = .ok (.iload_n 3, 1) := by decide +kernel
theorem dX5_keeperOn_45 : decode cX5_keeperOn 45 = .ok (.ireturn, 1) := by decide +kernel
theorem dX5_keeperByGoing_0 : decode cX5_keeperByGoing 0 = .ok (.aload_n 0, 1) := by decide +kernel
theorem dX5_keeperByGoing_1 : decode cX5_keeperByGoing 1 = .ok (.iload_n 1, 1) := by decide +kernel
theorem dX5_keeperByGoing_2 : decode cX5_keeperByGoing 2 = .ok (.iload_n 2, 1) := by decide +kernel
theorem dX5_keeperByGoing_3 : decode cX5_keeperByGoing 3 = .ok (.invokevirtual 192, 3) := by decide +kernel
theorem dX5_keeperByGoing_6 : decode cX5_keeperByGoing 6 = .ok (.ireturn, 1) := by decide +kernel
theorem dX5_passesOf_0 : decode cX5_passesOf 0 = .ok (.iconst 0, 1) := by decide +kernel
theorem dX5_passesOf_1 : decode cX5_passesOf 1 = .ok (.istore_n 2, 1) := by decide +kernel
theorem dX5_passesOf_2 : decode cX5_passesOf 2 = .ok (.iconst 0, 1) := by decide +kernel
theorem dX5_passesOf_3 : decode cX5_passesOf 3 = .ok (.istore_n 3, 1) := by decide +kernel
theorem dX5_passesOf_4 : decode cX5_passesOf 4 = .ok (.iload_n 3, 1) := by decide +kernel
theorem dX5_passesOf_5 : decode cX5_passesOf 5 = .ok (.aload_n 0, 1) := by decide +kernel
theorem dX5_passesOf_6 : decode cX5_passesOf 6 = .ok (.getfield 110, 3) := by decide +kernel
theorem dX5_passesOf_9 : decode cX5_passesOf 9 = .ok (.if_icmp .ge 27, 3) := by decide +kernel
theorem dX5_passesOf_12 : decode cX5_passesOf 12 = .ok (.iload_n 2, 1) := by decide +kernel
theorem dX5_passesOf_13 : decode cX5_passesOf 13 = .ok (.aload_n 0, 1) := by decide +kernel
theorem dX5_passesOf_14 : decode cX5_passesOf 14 = .ok (.getfield 26, 3) := by decide +kernel
theorem dX5_passesOf_17 : decode cX5_passesOf 17 = .ok (.iload_n 3, 1) := by decide +kernel
theorem dX5_passesOf_18 : decode cX5_passesOf 18 = .ok (.iaload, 1) := by decide +kernel
theorem dX5_passesOf_19 : decode cX5_passesOf 19 = .ok (.iload_n 1, 1) := by decide +kernel
theorem dX5_passesOf_20 : decode cX5_passesOf 20 = .ok (.if_icmp .ne 7, 3) := by decide +kernel
theorem dX5_passesOf_23 : decode cX5_passesOf 23 = .ok (.iconst 1, 1) := by decide +kernel
theorem dX5_passesOf_24 : decode cX5_passesOf 24 = .ok (.goto 4, 3) := by decide +kernel
theorem dX5_passesOf_27 : decode cX5_passesOf 27 = .ok (.iconst 0, 1) := by decide +kernel
theorem dX5_passesOf_28 : decode cX5_passesOf 28 = .ok (.iadd, 1) := by decide +kernel
theorem dX5_passesOf_29 : decode cX5_passesOf 29 = .ok (.istore_n 2, 1) := by decide +kernel
theorem dX5_passesOf_30 : decode cX5_passesOf 30 = .ok (.iinc 3 1, 3) := by decide +kernel
theorem dX5_passesOf_33 : decode cX5_passesOf 33 = .ok (.goto (-29), 3) := by decide +kernel
theorem dX5_passesOf_36 : decode cX5_passesOf 36 = .ok (.iload_n 2, 1) := by decide +kernel
theorem dX5_passesOf_37 : decode cX5_passesOf 37 = .ok (.ireturn, 1) := by decide +kernel
theorem dX5_transfers_0 : decode cX5_transfers 0 = .ok (.aload_n 0, 1) := by decide +kernel
theorem dX5_transfers_1 : decode cX5_transfers 1 = .ok (.iload_n 1, 1) := by decide +kernel
theorem dX5_transfers_2 : decode cX5_transfers 2 = .ok (.invokevirtual 189, 3) := by decide +kernel
theorem dX5_transfers_5 : decode cX5_transfers 5 = .ok (.ifCond .eq 11, 3) := by decide +kernel
theorem dX5_transfers_8 : decode cX5_transfers 8 = .ok (.aload_n 0, 1) := by decide +kernel
theorem dX5_transfers_9 : decode cX5_transfers 9 = .ok (.iload_n 1, 1) := by decide +kernel
theorem dX5_transfers_10 : decode cX5_transfers 10 = .ok (.invokevirtual 195, 3) := by decide +kernel
theorem dX5_transfers_13 : decode cX5_transfers 13 = .ok (.goto 4, 3) := by decide +kernel
theorem dX5_transfers_16 : decode cX5_transfers 16 = .ok (.iconst 0, 1) := by decide +kernel
theorem dX5_transfers_17 : decode cX5_transfers 17 = .ok (.ireturn, 1) := by decide +kernel
theorem dX5_transferDay_0 : decode cX5_transferDay 0 = .ok (.aload_n 0, 1) := by decide +kernel
theorem dX5_transferDay_1 : decode cX5_transferDay 1 = .ok (.iload_n 1, 1) := by decide +kernel
theorem dX5_transferDay_2 : decode cX5_transferDay 2 = .ok (.invokevirtual 189, 3) := by decide +kernel
theorem dX5_transferDay_5 : decode cX5_transferDay 5 = .ok (.ifCond .eq 18, 3) := by decide +kernel
theorem dX5_transferDay_8 : decode cX5_transferDay 8 = .ok (.iload_n 2, 1) := by decide +kernel
theorem dX5_transferDay_9 : decode cX5_transferDay 9 = .ok (.iconst 0, 1) := by decide +kernel
theorem dX5_transferDay_10 : decode cX5_transferDay 10 = .ok (.aload_n 0, 1) := by decide +kernel
theorem dX5_transferDay_11 : decode cX5_transferDay 11 = .ok (.iload_n 1, 1) := by decide +kernel
theorem dX5_transferDay_12 : decode cX5_transferDay 12 = .ok (.invokevirtual 195, 3) := by decide +kernel
theorem dX5_transferDay_15 : decode cX5_transferDay 15 = .ok (.iconst 1, 1) := by decide +kernel
theorem dX5_transferDay_16 : decode cX5_transferDay 16 = .ok (.isub, 1) := by decide +kernel
theorem dX5_transferDay_17 : decode cX5_transferDay 17 = .ok (.invokestatic 87, 3) := by decide +kernel
theorem dX5_transferDay_20 : decode cX5_transferDay 20 = .ok (.ifCond .ne 9, 3) := by decide +kernel
theorem dX5_transferDay_23 : decode cX5_transferDay 23 = .ok (.aload_n 0, 1) := by decide +kernel
theorem dX5_transferDay_24 : decode cX5_transferDay 24 = .ok (.iconst 1, 1) := by decide +kernel
theorem dX5_transferDay_25 : decode cX5_transferDay 25 = .ok (.invokevirtual 116, 3) := by decide +kernel
theorem dX5_transferDay_28 : decode cX5_transferDay 28 = .ok (.ireturn, 1) := by decide +kernel
theorem dX5_transferDay_29 : decode cX5_transferDay 29 = .ok (.iload_n 2, 1) := by decide +kernel
theorem dX5_transferDay_30 : decode cX5_transferDay 30 = .ok (.istore_n 3, 1) := by decide +kernel
theorem dX5_transferDay_31 : decode cX5_transferDay 31 = .ok (.iconst 0, 1) := by decide +kernel
theorem dX5_transferDay_32 : decode cX5_transferDay 32 = .ok (.istore 4, 2) := by decide +kernel
theorem dX5_transferDay_34 : decode cX5_transferDay 34 = .ok (.iload 4, 2) := by decide +kernel
theorem dX5_transferDay_36 : decode cX5_transferDay 36 = .ok (.aload_n 0, 1) := by decide +kernel
theorem dX5_transferDay_37 : decode cX5_transferDay 37 = .ok (.getfield 110, 3) := by decide +kernel
theorem dX5_transferDay_40 : decode cX5_transferDay 40 = .ok (.if_icmp .ge 38, 3) := by decide +kernel
theorem dX5_transferDay_43 : decode cX5_transferDay 43 = .ok (.aload_n 0, 1) := by decide +kernel
theorem dX5_transferDay_44 : decode cX5_transferDay 44 = .ok (.getfield 26, 3) := by decide +kernel
theorem dX5_transferDay_47 : decode cX5_transferDay 47 = .ok (.iload 4, 2) := by decide +kernel
theorem dX5_transferDay_49 : decode cX5_transferDay 49 = .ok (.iaload, 1) := by decide +kernel
theorem dX5_transferDay_50 : decode cX5_transferDay 50 = .ok (.iload_n 1, 1) := by decide +kernel
theorem dX5_transferDay_51 : decode cX5_transferDay 51 = .ok (.if_icmp .eq 6, 3) := by decide +kernel
theorem dX5_transferDay_54 : decode cX5_transferDay 54 = .ok (.goto 18, 3) := by decide +kernel
theorem dX5_transferDay_57 : decode cX5_transferDay 57 = .ok (.iload_n 3, 1) := by decide +kernel
theorem dX5_transferDay_58 : decode cX5_transferDay 58 = .ok (.ifCond .ne 11, 3) := by decide +kernel
theorem dX5_transferDay_61 : decode cX5_transferDay 61 = .ok (.aload_n 0, 1) := by decide +kernel
theorem dX5_transferDay_62 : decode cX5_transferDay 62 = .ok (.getfield 29, 3) := by decide +kernel
theorem dX5_transferDay_65 : decode cX5_transferDay 65 = .ok (.iload 4, 2) := by decide +kernel
theorem dX5_transferDay_67 : decode cX5_transferDay 67 = .ok (.iaload, 1) := by decide +kernel
theorem dX5_transferDay_68 : decode cX5_transferDay 68 = .ok (.ireturn, 1) := by decide +kernel
theorem dX5_transferDay_69 : decode cX5_transferDay 69 = .ok (.iinc 3 (-1), 3) := by decide +kernel
theorem dX5_transferDay_72 : decode cX5_transferDay 72 = .ok (.iinc 4 1, 3) := by decide +kernel
theorem dX5_transferDay_75 : decode cX5_transferDay 75 = .ok (.goto (-41), 3) := by decide +kernel
theorem dX5_transferDay_78 : decode cX5_transferDay 78 = .ok (.iconst 0, 1) := by decide +kernel
theorem dX5_transferDay_79 : decode cX5_transferDay 79 = .ok (.ireturn, 1) := by decide +kernel
theorem dX5_keptBy_0 : decode cX5_keptBy 0 = .ok (.aload_n 0, 1) := by decide +kernel
theorem dX5_keptBy_1 : decode cX5_keptBy 1 = .ok (.iload_n 1, 1) := by decide +kernel
theorem dX5_keptBy_2 : decode cX5_keptBy 2 = .ok (.invokevirtual 124, 3) := by decide +kernel
theorem dX5_keptBy_5 : decode cX5_keptBy 5 = .ok (.ifCond .ne 9, 3) := by decide +kernel
theorem dX5_keptBy_8 : decode cX5_keptBy 8 = .ok (.aload_n 0, 1) := by decide +kernel
theorem dX5_keptBy_9 : decode cX5_keptBy 9 = .ok (.iconst 1, 1) := by decide +kernel
theorem dX5_keptBy_10 : decode cX5_keptBy 10 = .ok (.invokevirtual 116, 3) := by decide +kernel
theorem dX5_keptBy_13 : decode cX5_keptBy 13 = .ok (.ireturn, 1) := by decide +kernel
theorem dX5_keptBy_14 : decode cX5_keptBy 14 = .ok (.aload_n 0, 1) := by decide +kernel
theorem dX5_keptBy_15 : decode cX5_keptBy 15 = .ok (.iconst 0, 1) := by decide +kernel
theorem dX5_keptBy_16 : decode cX5_keptBy 16 = .ok (.putfield 80, 3) := by decide +kernel
theorem dX5_keptBy_19 : decode cX5_keptBy 19 = .ok (.iconst 0, 1) := by decide +kernel
theorem dX5_keptBy_20 : decode cX5_keptBy 20 = .ok (.istore_n 2, 1) := by decide +kernel
theorem dX5_keptBy_21 : decode cX5_keptBy 21 = .ok (.iconst 0, 1) := by decide +kernel
theorem dX5_keptBy_22 : decode cX5_keptBy 22 = .ok (.istore_n 3, 1) := by decide +kernel
theorem dX5_keptBy_23 : decode cX5_keptBy 23 = .ok (.iload_n 3, 1) := by decide +kernel
theorem dX5_keptBy_24 : decode cX5_keptBy 24 = .ok (.aload_n 0, 1) := by decide +kernel
theorem dX5_keptBy_25 : decode cX5_keptBy 25 = .ok (.getfield 91, 3) := by decide +kernel
theorem dX5_keptBy_28 : decode cX5_keptBy 28 = .ok (.if_icmp .ge 35, 3) := by decide +kernel
theorem dX5_keptBy_31 : decode cX5_keptBy 31 = .ok (.iload_n 2, 1) := by decide +kernel
theorem dX5_keptBy_32 : decode cX5_keptBy 32 = .ok (.aload_n 0, 1) := by decide +kernel
theorem dX5_keptBy_33 : decode cX5_keptBy 33 = .ok (.getfield 19, 3) := by decide +kernel
theorem dX5_keptBy_36 : decode cX5_keptBy 36 = .ok (.iload_n 3, 1) := by decide +kernel
theorem dX5_keptBy_37 : decode cX5_keptBy 37 = .ok (.baload, 1) := by decide +kernel
theorem dX5_keptBy_38 : decode cX5_keptBy 38 = .ok (.ifCond .ne 16, 3) := by decide +kernel
theorem dX5_keptBy_41 : decode cX5_keptBy 41 = .ok (.aload_n 0, 1) := by decide +kernel
theorem dX5_keptBy_42 : decode cX5_keptBy 42 = .ok (.iload_n 3, 1) := by decide +kernel
theorem dX5_keptBy_43 : decode cX5_keptBy 43 = .ok (.invokevirtual 160, 3) := by decide +kernel
theorem dX5_keptBy_46 : decode cX5_keptBy 46 = .ok (.iload_n 1, 1) := by decide +kernel
theorem dX5_keptBy_47 : decode cX5_keptBy 47 = .ok (.if_icmp .ne 7, 3) := by decide +kernel
theorem dX5_keptBy_50 : decode cX5_keptBy 50 = .ok (.iconst 1, 1) := by decide +kernel
theorem dX5_keptBy_51 : decode cX5_keptBy 51 = .ok (.goto 4, 3) := by decide +kernel
theorem dX5_keptBy_54 : decode cX5_keptBy 54 = .ok (.iconst 0, 1) := by decide +kernel
theorem dX5_keptBy_55 : decode cX5_keptBy 55 = .ok (.iadd, 1) := by decide +kernel
theorem dX5_keptBy_56 : decode cX5_keptBy 56 = .ok (.istore_n 2, 1) := by decide +kernel
theorem dX5_keptBy_57 : decode cX5_keptBy 57 = .ok (.iinc 3 1, 3) := by decide +kernel
theorem dX5_keptBy_60 : decode cX5_keptBy 60 = .ok (.goto (-37), 3) := by decide +kernel
theorem dX5_keptBy_63 : decode cX5_keptBy 63 = .ok (.iload_n 2, 1) := by decide +kernel
theorem dX5_keptBy_64 : decode cX5_keptBy 64 = .ok (.ireturn, 1) := by decide +kernel
theorem dX5_addLien_0 : decode cX5_addLien 0 = .ok (.aload_n 0, 1) := by decide +kernel
theorem dX5_addLien_1 : decode cX5_addLien 1 = .ok (.iload_n 1, 1) := by decide +kernel
theorem dX5_addLien_2 : decode cX5_addLien 2 = .ok (.invokevirtual 147, 3) := by decide +kernel
theorem dX5_addLien_5 : decode cX5_addLien 5 = .ok (.ifCond .ne 9, 3) := by decide +kernel
theorem dX5_addLien_8 : decode cX5_addLien 8 = .ok (.aload_n 0, 1) := by decide +kernel
theorem dX5_addLien_9 : decode cX5_addLien 9 = .ok (.iconst 1, 1) := by decide +kernel
theorem dX5_addLien_10 : decode cX5_addLien 10 = .ok (.invokevirtual 116, 3) := by decide +kernel
theorem dX5_addLien_13 : decode cX5_addLien 13 = .ok (.ireturn, 1) := by decide +kernel
theorem dX5_addLien_14 : decode cX5_addLien 14 = .ok (.iload_n 2, 1) := by decide +kernel
theorem dX5_addLien_15 : decode cX5_addLien 15 = .ok (.bipush 97, 2) := by decide +kernel
theorem dX5_addLien_17 : decode cX5_addLien 17 = .ok (.bipush 102, 2) := by decide +kernel
theorem dX5_addLien_19 : decode cX5_addLien 19 = .ok (.invokestatic 87, 3) := by decide +kernel
theorem dX5_addLien_22 : decode cX5_addLien 22 = .ok (.ifCond .eq 14, 3) := by decide +kernel
theorem dX5_addLien_25 : decode cX5_addLien 25 = .ok (.iload_n 3, 1) := by decide +kernel
theorem dX5_addLien_26 : decode cX5_addLien 26 = .ok (.iconst 1, 1) := by decide +kernel
theorem dX5_addLien_27 : decode cX5_addLien 27 = .ok (.sipush 9999, 3) := by decide +kernel
theorem dX5_addLien_30 : decode cX5_addLien 30 = .ok (.invokestatic 87, 3) := by decide +kernel
theorem dX5_addLien_33 : decode cX5_addLien 33 = .ok (.ifCond .ne 9, 3) := by decide +kernel
theorem dX5_addLien_36 : decode cX5_addLien 36 = .ok (.aload_n 0, 1) := by decide +kernel
theorem dX5_addLien_37 : decode cX5_addLien 37 = .ok (.iconst 2, 1) := by decide +kernel
theorem dX5_addLien_38 : decode cX5_addLien 38 = .ok (.invokevirtual 116, 3) := by decide +kernel
theorem dX5_addLien_41 : decode cX5_addLien 41 = .ok (.ireturn, 1) := by decide +kernel
theorem dX5_addLien_42 : decode cX5_addLien 42 = .ok (.aload_n 0, 1) := by decide +kernel
theorem dX5_addLien_43 : decode cX5_addLien 43 = .ok (.getfield 19, 3) := by decide +kernel
theorem dX5_addLien_46 : decode cX5_addLien 46 = .ok (.iload_n 1, 1) := by decide +kernel
theorem dX5_addLien_47 : decode cX5_addLien 47 = .ok (.baload, 1) := by decide +kernel
theorem dX5_addLien_48 : decode cX5_addLien 48 = .ok (.ifCond .eq 9, 3) := by decide +kernel
theorem dX5_addLien_51 : decode cX5_addLien 51 = .ok (.aload_n 0, 1) := by decide +kernel
theorem dX5_addLien_52 : decode cX5_addLien 52 = .ok (.iconst 3, 1) := by decide +kernel
theorem dX5_addLien_53 : decode cX5_addLien 53 = .ok (.invokevirtual 116, 3) := by decide +kernel
theorem dX5_addLien_56 : decode cX5_addLien 56 = .ok (.ireturn, 1) := by decide +kernel
theorem dX5_addLien_57 : decode cX5_addLien 57 = .ok (.aload_n 0, 1) := by decide +kernel
theorem dX5_addLien_58 : decode cX5_addLien 58 = .ok (.iconst 0, 1) := by decide +kernel
theorem dX5_addLien_59 : decode cX5_addLien 59 = .ok (.putfield 80, 3) := by decide +kernel
theorem dX5_addLien_62 : decode cX5_addLien 62 = .ok (.aload_n 0, 1) := by decide +kernel
theorem dX5_addLien_63 : decode cX5_addLien 63 = .ok (.getfield 16, 3) := by decide +kernel
theorem dX5_addLien_66 : decode cX5_addLien 66 = .ok (.bipush 6, 2) := by decide +kernel
theorem dX5_addLien_68 : decode cX5_addLien 68 = .ok (.iload_n 1, 1) := by decide +kernel
theorem dX5_addLien_69 : decode cX5_addLien 69 = .ok (.imul, 1) := by decide +kernel
theorem dX5_addLien_70 : decode cX5_addLien 70 = .ok (.iload_n 2, 1) := by decide +kernel
theorem dX5_addLien_71 : decode cX5_addLien 71 = .ok (.iadd, 1) := by decide +kernel
theorem dX5_addLien_72 : decode cX5_addLien 72 = .ok (.bipush 97, 2) := by decide +kernel
theorem dX5_addLien_74 : decode cX5_addLien 74 = .ok (.isub, 1) := by decide +kernel
theorem dX5_addLien_75 : decode cX5_addLien 75 = .ok (.dup2, 1) := by decide +kernel
theorem dX5_addLien_76 : decode cX5_addLien 76 = .ok (.iaload, 1) := by decide +kernel
theorem dX5_addLien_77 : decode cX5_addLien 77 = .ok (.iload_n 3, 1) := by decide +kernel
theorem dX5_addLien_78 : decode cX5_addLien 78 = .ok (.iadd, 1) := by decide +kernel
theorem dX5_addLien_79 : decode cX5_addLien 79 = .ok (.iastore, 1) := by decide +kernel
theorem dX5_addLien_80 : decode cX5_addLien 80 = .ok (.aload_n 0, 1) := by decide +kernel
theorem dX5_addLien_81 : decode cX5_addLien 81 = .ok (.getfield 16, 3) := by decide +kernel
theorem dX5_addLien_84 : decode cX5_addLien 84 = .ok (.bipush 6, 2) := by decide +kernel
theorem dX5_addLien_86 : decode cX5_addLien 86 = .ok (.iload_n 1, 1) := by decide +kernel
theorem dX5_addLien_87 : decode cX5_addLien 87 = .ok (.imul, 1) := by decide +kernel
theorem dX5_addLien_88 : decode cX5_addLien 88 = .ok (.iload_n 2, 1) := by decide +kernel
theorem dX5_addLien_89 : decode cX5_addLien 89 = .ok (.iadd, 1) := by decide +kernel
theorem dX5_addLien_90 : decode cX5_addLien 90 = .ok (.bipush 97, 2) := by decide +kernel
theorem dX5_addLien_92 : decode cX5_addLien 92 = .ok (.isub, 1) := by decide +kernel
theorem dX5_addLien_93 : decode cX5_addLien 93 = .ok (.iaload, 1) := by decide +kernel
theorem dX5_addLien_94 : decode cX5_addLien 94 = .ok (.ireturn, 1) := by decide +kernel
theorem dX5_place_0 : decode cX5_place 0 = .ok (.iload_n 2, 1) := by decide +kernel
theorem dX5_place_1 : decode cX5_place 1 = .ok (.bipush 97, 2) := by decide +kernel
theorem dX5_place_3 : decode cX5_place 3 = .ok (.bipush 102, 2) := by decide +kernel
theorem dX5_place_5 : decode cX5_place 5 = .ok (.invokestatic 87, 3) := by decide +kernel
theorem dX5_place_8 : decode cX5_place 8 = .ok (.ifCond .ne 5, 3) := by decide +kernel
theorem dX5_place_11 : decode cX5_place 11 = .ok (.iconst (-1), 1) := by decide +kernel
theorem dX5_place_12 : decode cX5_place 12 = .ok (.ireturn, 1) := by decide +kernel
theorem dX5_place_13 : decode cX5_place 13 = .ok (.bipush 6, 2) := by decide +kernel
theorem dX5_place_15 : decode cX5_place 15 = .ok (.iload_n 1, 1) := by decide +kernel
theorem dX5_place_16 : decode cX5_place 16 = .ok (.imul, 1) := by decide +kernel
theorem dX5_place_17 : decode cX5_place 17 = .ok (.iload_n 2, 1) := by decide +kernel
theorem dX5_place_18 : decode cX5_place 18 = .ok (.iadd, 1) := by decide +kernel
theorem dX5_place_19 : decode cX5_place 19 = .ok (.bipush 97, 2) := by decide +kernel
theorem dX5_place_21 : decode cX5_place 21 = .ok (.isub, 1) := by decide +kernel
theorem dX5_place_22 : decode cX5_place 22 = .ok (.istore_n 3, 1) := by decide +kernel
theorem dX5_place_23 : decode cX5_place 23 = .ok (.aload_n 0, 1) := by decide +kernel
theorem dX5_place_24 : decode cX5_place 24 = .ok (.getfield 16, 3) := by decide +kernel
theorem dX5_place_27 : decode cX5_place 27 = .ok (.iload_n 3, 1) := by decide +kernel
theorem dX5_place_28 : decode cX5_place 28 = .ok (.iaload, 1) := by decide +kernel
theorem dX5_place_29 : decode cX5_place 29 = .ok (.ifCond .le 7, 3) := by decide +kernel
theorem dX5_place_32 : decode cX5_place 32 = .ok (.iload_n 3, 1) := by decide +kernel
theorem dX5_place_33 : decode cX5_place 33 = .ok (.goto 4, 3) := by decide +kernel
theorem dX5_place_36 : decode cX5_place 36 = .ok (.iconst (-1), 1) := by decide +kernel
theorem dX5_place_37 : decode cX5_place 37 = .ok (.ireturn, 1) := by decide +kernel
theorem dX5_payLien_0 : decode cX5_payLien 0 = .ok (.aload_n 0, 1) := by decide +kernel
theorem dX5_payLien_1 : decode cX5_payLien 1 = .ok (.iload_n 1, 1) := by decide +kernel
theorem dX5_payLien_2 : decode cX5_payLien 2 = .ok (.invokevirtual 147, 3) := by decide +kernel
theorem dX5_payLien_5 : decode cX5_payLien 5 = .ok (.ifCond .ne 9, 3) := by decide +kernel
theorem dX5_payLien_8 : decode cX5_payLien 8 = .ok (.aload_n 0, 1) := by decide +kernel
theorem dX5_payLien_9 : decode cX5_payLien 9 = .ok (.iconst 1, 1) := by decide +kernel
theorem dX5_payLien_10 : decode cX5_payLien 10 = .ok (.invokevirtual 116, 3) := by decide +kernel
theorem dX5_payLien_13 : decode cX5_payLien 13 = .ok (.ireturn, 1) := by decide +kernel
theorem dX5_payLien_14 : decode cX5_payLien 14 = .ok (.aload_n 0, 1) := by decide +kernel
theorem dX5_payLien_15 : decode cX5_payLien 15 = .ok (.iload_n 1, 1) := by decide +kernel
theorem dX5_payLien_16 : decode cX5_payLien 16 = .ok (.iload_n 2, 1) := by decide +kernel
theorem dX5_payLien_17 : decode cX5_payLien 17 = .ok (.invokevirtual 198, 3) := by decide +kernel
theorem dX5_payLien_20 : decode cX5_payLien 20 = .ok (.istore 4, 2) := by decide +kernel
theorem dX5_payLien_22 : decode cX5_payLien 22 = .ok (.iload 4, 2) := by decide +kernel
theorem dX5_payLien_24 : decode cX5_payLien 24 = .ok (.iconst (-1), 1) := by decide +kernel
theorem dX5_payLien_25 : decode cX5_payLien 25 = .ok (.if_icmp .ne 9, 3) := by decide +kernel
theorem dX5_payLien_28 : decode cX5_payLien 28 = .ok (.aload_n 0, 1) := by decide +kernel
theorem dX5_payLien_29 : decode cX5_payLien 29 = .ok (.iconst 2, 1) := by decide +kernel
theorem dX5_payLien_30 : decode cX5_payLien 30 = .ok (.invokevirtual 116, 3) := by decide +kernel
theorem dX5_payLien_33 : decode cX5_payLien 33 = .ok (.ireturn, 1) := by decide +kernel
theorem dX5_payLien_34 : decode cX5_payLien 34 = .ok (.iload_n 3, 1) := by decide +kernel
theorem dX5_payLien_35 : decode cX5_payLien 35 = .ok (.iconst 1, 1) := by decide +kernel
theorem dX5_payLien_36 : decode cX5_payLien 36 = .ok (.aload_n 0, 1) := by decide +kernel
theorem dX5_payLien_37 : decode cX5_payLien 37 = .ok (.getfield 16, 3) := by decide +kernel
theorem dX5_payLien_40 : decode cX5_payLien 40 = .ok (.iload 4, 2) := by decide +kernel
theorem dX5_payLien_42 : decode cX5_payLien 42 = .ok (.iaload, 1) := by decide +kernel
theorem dX5_payLien_43 : decode cX5_payLien 43 = .ok (.invokestatic 87, 3) := by decide +kernel
theorem dX5_payLien_46 : decode cX5_payLien 46 = .ok (.ifCond .ne 9, 3) := by decide +kernel
theorem dX5_payLien_49 : decode cX5_payLien 49 = .ok (.aload_n 0, 1) := by decide +kernel
theorem dX5_payLien_50 : decode cX5_payLien 50 = .ok (.iconst 3, 1) := by decide +kernel
theorem dX5_payLien_51 : decode cX5_payLien 51 = .ok (.invokevirtual 116, 3) := by decide +kernel
theorem dX5_payLien_54 : decode cX5_payLien 54 = .ok (.ireturn, 1) := by decide +kernel
theorem dX5_payLien_55 : decode cX5_payLien 55 = .ok (.aload_n 0, 1) := by decide +kernel
theorem dX5_payLien_56 : decode cX5_payLien 56 = .ok (.iconst 0, 1) := by decide +kernel
theorem dX5_payLien_57 : decode cX5_payLien 57 = .ok (.putfield 80, 3) := by decide +kernel
theorem dX5_payLien_60 : decode cX5_payLien 60 = .ok (.aload_n 0, 1) := by decide +kernel
theorem dX5_payLien_61 : decode cX5_payLien 61 = .ok (.getfield 16, 3) := by decide +kernel
theorem dX5_payLien_64 : decode cX5_payLien 64 = .ok (.iload 4, 2) := by decide +kernel
theorem dX5_payLien_66 : decode cX5_payLien 66 = .ok (.dup2, 1) := by decide +kernel
theorem dX5_payLien_67 : decode cX5_payLien 67 = .ok (.iaload, 1) := by decide +kernel
theorem dX5_payLien_68 : decode cX5_payLien 68 = .ok (.iload_n 3, 1) := by decide +kernel
theorem dX5_payLien_69 : decode cX5_payLien 69 = .ok (.isub, 1) := by decide +kernel
theorem dX5_payLien_70 : decode cX5_payLien 70 = .ok (.iastore, 1) := by decide +kernel
theorem dX5_payLien_71 : decode cX5_payLien 71 = .ok (.aload_n 0, 1) := by decide +kernel
theorem dX5_payLien_72 : decode cX5_payLien 72 = .ok (.getfield 16, 3) := by decide +kernel
theorem dX5_payLien_75 : decode cX5_payLien 75 = .ok (.iload 4, 2) := by decide +kernel
theorem dX5_payLien_77 : decode cX5_payLien 77 = .ok (.iaload, 1) := by decide +kernel
theorem dX5_payLien_78 : decode cX5_payLien 78 = .ok (.ifCond .ne 8, 3) := by decide +kernel
theorem dX5_payLien_81 : decode cX5_payLien 81 = .ok (.aload_n 0, 1) := by decide +kernel
theorem dX5_payLien_82 : decode cX5_payLien 82 = .ok (.iload_n 1, 1) := by decide +kernel
theorem dX5_payLien_83 : decode cX5_payLien 83 = .ok (.invokevirtual 175, 3) := by decide +kernel
theorem dX5_payLien_86 : decode cX5_payLien 86 = .ok (.aload_n 0, 1) := by decide +kernel
theorem dX5_payLien_87 : decode cX5_payLien 87 = .ok (.getfield 16, 3) := by decide +kernel
theorem dX5_payLien_90 : decode cX5_payLien 90 = .ok (.iload 4, 2) := by decide +kernel
theorem dX5_payLien_92 : decode cX5_payLien 92 = .ok (.iaload, 1) := by decide +kernel
theorem dX5_payLien_93 : decode cX5_payLien 93 = .ok (.ireturn, 1) := by decide +kernel
theorem dX5_lienOf_0 : decode cX5_lienOf 0 = .ok (.aload_n 0, 1) := by decide +kernel
theorem dX5_lienOf_1 : decode cX5_lienOf 1 = .ok (.iload_n 1, 1) := by decide +kernel
theorem dX5_lienOf_2 : decode cX5_lienOf 2 = .ok (.invokevirtual 147, 3) := by decide +kernel
theorem dX5_lienOf_5 : decode cX5_lienOf 5 = .ok (.ifCond .ne 9, 3) := by decide +kernel
theorem dX5_lienOf_8 : decode cX5_lienOf 8 = .ok (.aload_n 0, 1) := by decide +kernel
theorem dX5_lienOf_9 : decode cX5_lienOf 9 = .ok (.iconst 1, 1) := by decide +kernel
theorem dX5_lienOf_10 : decode cX5_lienOf 10 = .ok (.invokevirtual 116, 3) := by decide +kernel
theorem dX5_lienOf_13 : decode cX5_lienOf 13 = .ok (.ireturn, 1) := by decide +kernel
theorem dX5_lienOf_14 : decode cX5_lienOf 14 = .ok (.aload_n 0, 1) := by decide +kernel
theorem dX5_lienOf_15 : decode cX5_lienOf 15 = .ok (.iload_n 1, 1) := by decide +kernel
theorem dX5_lienOf_16 : decode cX5_lienOf 16 = .ok (.iload_n 2, 1) := by decide +kernel
theorem dX5_lienOf_17 : decode cX5_lienOf 17 = .ok (.invokevirtual 198, 3) := by decide +kernel
theorem dX5_lienOf_20 : decode cX5_lienOf 20 = .ok (.istore_n 3, 1) := by decide +kernel
theorem dX5_lienOf_21 : decode cX5_lienOf 21 = .ok (.aload_n 0, 1) := by decide +kernel
theorem dX5_lienOf_22 : decode cX5_lienOf 22 = .ok (.iload_n 3, 1) := by decide +kernel
theorem dX5_lienOf_23 : decode cX5_lienOf 23 = .ok (.iconst (-1), 1) := by decide +kernel
theorem dX5_lienOf_24 : decode cX5_lienOf 24 = .ok (.if_icmp .ne 7, 3) := by decide +kernel
theorem dX5_lienOf_27 : decode cX5_lienOf 27 = .ok (.iconst 2, 1) := by decide +kernel
theorem dX5_lienOf_28 : decode cX5_lienOf 28 = .ok (.goto 4, 3) := by decide +kernel
theorem dX5_lienOf_31 : decode cX5_lienOf 31 = .ok (.iconst 0, 1) := by decide +kernel
theorem dX5_lienOf_32 : decode cX5_lienOf 32 = .ok (.putfield 80, 3) := by decide +kernel
theorem dX5_lienOf_35 : decode cX5_lienOf 35 = .ok (.iload_n 3, 1) := by decide +kernel
theorem dX5_lienOf_36 : decode cX5_lienOf 36 = .ok (.iconst (-1), 1) := by decide +kernel
theorem dX5_lienOf_37 : decode cX5_lienOf 37 = .ok (.if_icmp .ne 7, 3) := by decide +kernel
theorem dX5_lienOf_40 : decode cX5_lienOf 40 = .ok (.iconst 0, 1) := by decide +kernel
theorem dX5_lienOf_41 : decode cX5_lienOf 41 = .ok (.goto 9, 3) := by decide +kernel
theorem dX5_lienOf_44 : decode cX5_lienOf 44 = .ok (.aload_n 0, 1) := by decide +kernel
theorem dX5_lienOf_45 : decode cX5_lienOf 45 = .ok (.getfield 16, 3) := by decide +kernel
theorem dX5_lienOf_48 : decode cX5_lienOf 48 = .ok (.iload_n 3, 1) := by decide +kernel
theorem dX5_lienOf_49 : decode cX5_lienOf 49 = .ok (.iaload, 1) := by decide +kernel
theorem dX5_lienOf_50 : decode cX5_lienOf 50 = .ok (.ireturn, 1) := by decide +kernel
theorem dX5_isBlocked_0 : decode cX5_isBlocked 0 = .ok (.aload_n 0, 1) := by decide +kernel
theorem dX5_isBlocked_1 : decode cX5_isBlocked 1 = .ok (.iload_n 1, 1) := by decide +kernel
theorem dX5_isBlocked_2 : decode cX5_isBlocked 2 = .ok (.invokevirtual 189, 3) := by decide +kernel
theorem dX5_isBlocked_5 : decode cX5_isBlocked 5 = .ok (.ifCond .eq 15, 3) := by decide +kernel
theorem dX5_isBlocked_8 : decode cX5_isBlocked 8 = .ok (.aload_n 0, 1) := by decide +kernel
theorem dX5_isBlocked_9 : decode cX5_isBlocked 9 = .ok (.iload_n 1, 1) := by decide +kernel
theorem dX5_isBlocked_10 : decode cX5_isBlocked 10 = .ok (.invokevirtual 157, 3) := by decide +kernel
theorem dX5_isBlocked_13 : decode cX5_isBlocked 13 = .ok (.ifCond .eq 7, 3) := by decide +kernel
theorem dX5_isBlocked_16 : decode cX5_isBlocked 16 = .ok (.iconst 1, 1) := by decide +kernel
theorem dX5_isBlocked_17 : decode cX5_isBlocked 17 = .ok (.goto 4, 3) := by decide +kernel
theorem dX5_isBlocked_20 : decode cX5_isBlocked 20 = .ok (.iconst 0, 1) := by decide +kernel
theorem dX5_isBlocked_21 : decode cX5_isBlocked 21 = .ok (.ireturn, 1) := by decide +kernel
theorem dX5_kept_0 : decode cX5_kept 0 = .ok (.aload_n 0, 1) := by decide +kernel
theorem dX5_kept_1 : decode cX5_kept 1 = .ok (.getfield 77, 3) := by decide +kernel
theorem dX5_kept_4 : decode cX5_kept 4 = .ok (.iload_n 1, 1) := by decide +kernel
theorem dX5_kept_5 : decode cX5_kept 5 = .ok (.baload, 1) := by decide +kernel
theorem dX5_kept_6 : decode cX5_kept 6 = .ok (.ifCond .eq 24, 3) := by decide +kernel
theorem dX5_kept_9 : decode cX5_kept 9 = .ok (.aload_n 0, 1) := by decide +kernel
theorem dX5_kept_10 : decode cX5_kept 10 = .ok (.getfield 97, 3) := by decide +kernel
theorem dX5_kept_13 : decode cX5_kept 13 = .ok (.aload_n 0, 1) := by decide +kernel
theorem dX5_kept_14 : decode cX5_kept 14 = .ok (.getfield 74, 3) := by decide +kernel
theorem dX5_kept_17 : decode cX5_kept 17 = .ok (.iload_n 1, 1) := by decide +kernel
theorem dX5_kept_18 : decode cX5_kept 18 = .ok (.iaload, 1) := by decide +kernel
theorem dX5_kept_19 : decode cX5_kept 19 = .ok (.sipush 361, 3) := by decide +kernel
theorem dX5_kept_22 : decode cX5_kept 22 = .ok (.iadd, 1) := by decide +kernel
theorem dX5_kept_23 : decode cX5_kept 23 = .ok (.if_icmp .ge 7, 3) := by decide +kernel
theorem dX5_kept_26 : decode cX5_kept 26 = .ok (.iconst 1, 1) := by decide +kernel
theorem dX5_kept_27 : decode cX5_kept 27 = .ok (.goto 4, 3) := by decide +kernel
theorem dX5_kept_30 : decode cX5_kept 30 = .ok (.iconst 0, 1) := by decide +kernel
theorem dX5_kept_31 : decode cX5_kept 31 = .ok (.ireturn, 1) := by decide +kernel
theorem dX5_keepPlate_0 : decode cX5_keepPlate 0 = .ok (.aload_n 0, 1) := by decide +kernel
theorem dX5_keepPlate_1 : decode cX5_keepPlate 1 = .ok (.iload_n 1, 1) := by decide +kernel
theorem dX5_keepPlate_2 : decode cX5_keepPlate 2 = .ok (.invokevirtual 147, 3) := by decide +kernel
theorem dX5_keepPlate_5 : decode cX5_keepPlate 5 = .ok (.ifCond .ne 9, 3) := by decide +kernel
theorem dX5_keepPlate_8 : decode cX5_keepPlate 8 = .ok (.aload_n 0, 1) := by decide +kernel
theorem dX5_keepPlate_9 : decode cX5_keepPlate 9 = .ok (.iconst 1, 1) := by decide +kernel
theorem dX5_keepPlate_10 : decode cX5_keepPlate 10 = .ok (.invokevirtual 116, 3) := by decide +kernel
theorem dX5_keepPlate_13 : decode cX5_keepPlate 13 = .ok (.ireturn, 1) := by decide +kernel
theorem dX5_keepPlate_14 : decode cX5_keepPlate 14 = .ok (.aload_n 0, 1) := by decide +kernel
theorem dX5_keepPlate_15 : decode cX5_keepPlate 15 = .ok (.iload_n 1, 1) := by decide +kernel
theorem dX5_keepPlate_16 : decode cX5_keepPlate 16 = .ok (.aload_n 0, 1) := by decide +kernel
theorem dX5_keepPlate_17 : decode cX5_keepPlate 17 = .ok (.getfield 97, 3) := by decide +kernel
theorem dX5_keepPlate_20 : decode cX5_keepPlate 20 = .ok (.invokevirtual 106, 3) := by decide +kernel
theorem dX5_keepPlate_23 : decode cX5_keepPlate 23 = .ok (.istore_n 2, 1) := by decide +kernel
theorem dX5_keepPlate_24 : decode cX5_keepPlate 24 = .ok (.iload_n 2, 1) := by decide +kernel
theorem dX5_keepPlate_25 : decode cX5_keepPlate 25 = .ok (.iconst (-1), 1) := by decide +kernel
theorem dX5_keepPlate_26 : decode cX5_keepPlate 26 = .ok (.if_icmp .ne 9, 3) := by decide +kernel
theorem dX5_keepPlate_29 : decode cX5_keepPlate 29 = .ok (.aload_n 0, 1) := by decide +kernel
theorem dX5_keepPlate_30 : decode cX5_keepPlate 30 = .ok (.iconst 2, 1) := by decide +kernel
theorem dX5_keepPlate_31 : decode cX5_keepPlate 31 = .ok (.invokevirtual 116, 3) := by decide +kernel
theorem dX5_keepPlate_34 : decode cX5_keepPlate 34 = .ok (.ireturn, 1) := by decide +kernel
theorem dX5_keepPlate_35 : decode cX5_keepPlate 35 = .ok (.aload_n 0, 1) := by decide +kernel
theorem dX5_keepPlate_36 : decode cX5_keepPlate 36 = .ok (.iload_n 1, 1) := by decide +kernel
theorem dX5_keepPlate_37 : decode cX5_keepPlate 37 = .ok (.invokevirtual 157, 3) := by decide +kernel
theorem dX5_keepPlate_40 : decode cX5_keepPlate 40 = .ok (.ifCond .ne 12, 3) := by decide +kernel
theorem dX5_keepPlate_43 : decode cX5_keepPlate 43 = .ok (.aload_n 0, 1) := by decide +kernel
theorem dX5_keepPlate_44 : decode cX5_keepPlate 44 = .ok (.getfield 94, 3) := by decide +kernel
theorem dX5_keepPlate_47 : decode cX5_keepPlate 47 = .ok (.bipush 40, 2) := by decide +kernel
theorem dX5_keepPlate_49 : decode cX5_keepPlate 49 = .ok (.if_icmp .ne 9, 3) := by decide +kernel
theorem dX5_keepPlate_52 : decode cX5_keepPlate 52 = .ok (.aload_n 0, 1) := by decide +kernel
theorem dX5_keepPlate_53 : decode cX5_keepPlate 53 = .ok (.iconst 3, 1) := by decide +kernel
theorem dX5_keepPlate_54 : decode cX5_keepPlate 54 = .ok (.invokevirtual 116, 3) := by decide +kernel
theorem dX5_keepPlate_57 : decode cX5_keepPlate 57 = .ok (.ireturn, 1) := by decide +kernel
theorem dX5_keepPlate_58 : decode cX5_keepPlate 58 = .ok (.aload_n 0, 1) := by decide +kernel
theorem dX5_keepPlate_59 : decode cX5_keepPlate 59 = .ok (.iconst 0, 1) := by decide +kernel
theorem dX5_keepPlate_60 : decode cX5_keepPlate 60 = .ok (.putfield 80, 3) := by decide +kernel
theorem dX5_keepPlate_63 : decode cX5_keepPlate 63 = .ok (.aload_n 0, 1) := by decide +kernel
theorem dX5_keepPlate_64 : decode cX5_keepPlate 64 = .ok (.getfield 77, 3) := by decide +kernel
theorem dX5_keepPlate_67 : decode cX5_keepPlate 67 = .ok (.iload_n 2, 1) := by decide +kernel
theorem dX5_keepPlate_68 : decode cX5_keepPlate 68 = .ok (.iconst 1, 1) := by decide +kernel
theorem dX5_keepPlate_69 : decode cX5_keepPlate 69 = .ok (.bastore, 1) := by decide +kernel
theorem dX5_keepPlate_70 : decode cX5_keepPlate 70 = .ok (.aload_n 0, 1) := by decide +kernel
theorem dX5_keepPlate_71 : decode cX5_keepPlate 71 = .ok (.getfield 71, 3) := by decide +kernel
theorem dX5_keepPlate_74 : decode cX5_keepPlate 74 = .ok (.iload_n 2, 1) := by decide +kernel
theorem dX5_keepPlate_75 : decode cX5_keepPlate 75 = .ok (.aload_n 0, 1) := by decide +kernel
theorem dX5_keepPlate_76 : decode cX5_keepPlate 76 = .ok (.iload_n 1, 1) := by decide +kernel
theorem dX5_keepPlate_77 : decode cX5_keepPlate 77 = .ok (.invokevirtual 160, 3) := by decide +kernel
theorem dX5_keepPlate_80 : decode cX5_keepPlate 80 = .ok (.iastore, 1) := by decide +kernel
theorem dX5_keepPlate_81 : decode cX5_keepPlate 81 = .ok (.aload_n 0, 1) := by decide +kernel
theorem dX5_keepPlate_82 : decode cX5_keepPlate 82 = .ok (.getfield 74, 3) := by decide +kernel
theorem dX5_keepPlate_85 : decode cX5_keepPlate 85 = .ok (.iload_n 2, 1) := by decide +kernel
theorem dX5_keepPlate_86 : decode cX5_keepPlate 86 = .ok (.aload_n 0, 1) := by decide +kernel
theorem dX5_keepPlate_87 : decode cX5_keepPlate 87 = .ok (.getfield 97, 3) := by decide +kernel
theorem dX5_keepPlate_90 : decode cX5_keepPlate 90 = .ok (.iastore, 1) := by decide +kernel
theorem dX5_keepPlate_91 : decode cX5_keepPlate 91 = .ok (.aload_n 0, 1) := by decide +kernel
theorem dX5_keepPlate_92 : decode cX5_keepPlate 92 = .ok (.iload_n 1, 1) := by decide +kernel
theorem dX5_keepPlate_93 : decode cX5_keepPlate 93 = .ok (.invokevirtual 136, 3) := by decide +kernel
theorem dX5_keepPlate_96 : decode cX5_keepPlate 96 = .ok (.ireturn, 1) := by decide +kernel
theorem dX5_putOn_0 : decode cX5_putOn 0 = .ok (.aload_n 0, 1) := by decide +kernel
theorem dX5_putOn_1 : decode cX5_putOn 1 = .ok (.iload_n 1, 1) := by decide +kernel
theorem dX5_putOn_2 : decode cX5_putOn 2 = .ok (.invokevirtual 202, 3) := by decide +kernel
theorem dX5_putOn_5 : decode cX5_putOn 5 = .ok (.ifCond .ne 9, 3) := by decide +kernel
theorem dX5_putOn_8 : decode cX5_putOn 8 = .ok (.aload_n 0, 1) := by decide +kernel
theorem dX5_putOn_9 : decode cX5_putOn 9 = .ok (.iconst 1, 1) := by decide +kernel
theorem dX5_putOn_10 : decode cX5_putOn 10 = .ok (.invokevirtual 116, 3) := by decide +kernel
theorem dX5_putOn_13 : decode cX5_putOn 13 = .ok (.ireturn, 1) := by decide +kernel
theorem dX5_putOn_14 : decode cX5_putOn 14 = .ok (.aload_n 0, 1) := by decide +kernel
theorem dX5_putOn_15 : decode cX5_putOn 15 = .ok (.iload_n 2, 1) := by decide +kernel
theorem dX5_putOn_16 : decode cX5_putOn 16 = .ok (.invokevirtual 147, 3) := by decide +kernel
theorem dX5_putOn_19 : decode cX5_putOn 19 = .ok (.ifCond .ne 9, 3) := by decide +kernel
theorem dX5_putOn_22 : decode cX5_putOn 22 = .ok (.aload_n 0, 1) := by decide +kernel
theorem dX5_putOn_23 : decode cX5_putOn 23 = .ok (.iconst 2, 1) := by decide +kernel
theorem dX5_putOn_24 : decode cX5_putOn 24 = .ok (.invokevirtual 116, 3) := by decide +kernel
theorem dX5_putOn_27 : decode cX5_putOn 27 = .ok (.ireturn, 1) := by decide +kernel
theorem dX5_putOn_28 : decode cX5_putOn 28 = .ok (.aload_n 0, 1) := by decide +kernel
theorem dX5_putOn_29 : decode cX5_putOn 29 = .ok (.iload_n 1, 1) := by decide +kernel
theorem dX5_putOn_30 : decode cX5_putOn 30 = .ok (.invokevirtual 205, 3) := by decide +kernel
theorem dX5_putOn_33 : decode cX5_putOn 33 = .ok (.ifCond .eq 17, 3) := by decide +kernel
theorem dX5_putOn_36 : decode cX5_putOn 36 = .ok (.aload_n 0, 1) := by decide +kernel
theorem dX5_putOn_37 : decode cX5_putOn 37 = .ok (.getfield 71, 3) := by decide +kernel
theorem dX5_putOn_40 : decode cX5_putOn 40 = .ok (.iload_n 1, 1) := by decide +kernel
theorem dX5_putOn_41 : decode cX5_putOn 41 = .ok (.iaload, 1) := by decide +kernel
theorem dX5_putOn_42 : decode cX5_putOn 42 = .ok (.aload_n 0, 1) := by decide +kernel
theorem dX5_putOn_43 : decode cX5_putOn 43 = .ok (.iload_n 2, 1) := by decide +kernel
theorem dX5_putOn_44 : decode cX5_putOn 44 = .ok (.invokevirtual 160, 3) := by decide +kernel
theorem dX5_putOn_47 : decode cX5_putOn 47 = .ok (.if_icmp .eq 9, 3) := by decide +kernel
theorem dX5_putOn_50 : decode cX5_putOn 50 = .ok (.aload_n 0, 1) := by decide +kernel
theorem dX5_putOn_51 : decode cX5_putOn 51 = .ok (.iconst 3, 1) := by decide +kernel
theorem dX5_putOn_52 : decode cX5_putOn 52 = .ok (.invokevirtual 116, 3) := by decide +kernel
theorem dX5_putOn_55 : decode cX5_putOn 55 = .ok (.ireturn, 1) := by decide +kernel
theorem dX5_putOn_56 : decode cX5_putOn 56 = .ok (.aload_n 0, 1) := by decide +kernel
theorem dX5_putOn_57 : decode cX5_putOn 57 = .ok (.iload_n 2, 1) := by decide +kernel
theorem dX5_putOn_58 : decode cX5_putOn 58 = .ok (.aload_n 0, 1) := by decide +kernel
theorem dX5_putOn_59 : decode cX5_putOn 59 = .ok (.getfield 97, 3) := by decide +kernel
theorem dX5_putOn_62 : decode cX5_putOn 62 = .ok (.invokevirtual 106, 3) := by decide +kernel
theorem dX5_putOn_65 : decode cX5_putOn 65 = .ok (.istore_n 3, 1) := by decide +kernel
theorem dX5_putOn_66 : decode cX5_putOn 66 = .ok (.aload_n 0, 1) := by decide +kernel
theorem dX5_putOn_67 : decode cX5_putOn 67 = .ok (.iload_n 2, 1) := by decide +kernel
theorem dX5_putOn_68 : decode cX5_putOn 68 = .ok (.invokevirtual 157, 3) := by decide +kernel
theorem dX5_putOn_71 : decode cX5_putOn 71 = .ok (.ifCond .ne 8, 3) := by decide +kernel
theorem dX5_putOn_74 : decode cX5_putOn 74 = .ok (.iload_n 3, 1) := by decide +kernel
theorem dX5_putOn_75 : decode cX5_putOn 75 = .ok (.iconst (-1), 1) := by decide +kernel
theorem dX5_putOn_76 : decode cX5_putOn 76 = .ok (.if_icmp .ne 9, 3) := by decide +kernel
theorem dX5_putOn_79 : decode cX5_putOn 79 = .ok (.aload_n 0, 1) := by decide +kernel
theorem dX5_putOn_80 : decode cX5_putOn 80 = .ok (.iconst 4, 1) := by decide +kernel
theorem dX5_putOn_81 : decode cX5_putOn 81 = .ok (.invokevirtual 116, 3) := by decide +kernel
theorem dX5_putOn_84 : decode cX5_putOn 84 = .ok (.ireturn, 1) := by decide +kernel
theorem dX5_putOn_85 : decode cX5_putOn 85 = .ok (.aload_n 0, 1) := by decide +kernel
theorem dX5_putOn_86 : decode cX5_putOn 86 = .ok (.iconst 0, 1) := by decide +kernel
theorem dX5_putOn_87 : decode cX5_putOn 87 = .ok (.putfield 80, 3) := by decide +kernel
theorem dX5_putOn_90 : decode cX5_putOn 90 = .ok (.aload_n 0, 1) := by decide +kernel
theorem dX5_putOn_91 : decode cX5_putOn 91 = .ok (.getfield 77, 3) := by decide +kernel
theorem dX5_putOn_94 : decode cX5_putOn 94 = .ok (.iload_n 1, 1) := by decide +kernel
theorem dX5_putOn_95 : decode cX5_putOn 95 = .ok (.iconst 0, 1) := by decide +kernel
theorem dX5_putOn_96 : decode cX5_putOn 96 = .ok (.bastore, 1) := by decide +kernel
theorem dX5_putOn_97 : decode cX5_putOn 97 = .ok (.aload_n 0, 1) := by decide +kernel
theorem dX5_putOn_98 : decode cX5_putOn 98 = .ok (.iload_n 2, 1) := by decide +kernel
theorem dX5_putOn_99 : decode cX5_putOn 99 = .ok (.iload_n 1, 1) := by decide +kernel
theorem dX5_putOn_100 : decode cX5_putOn 100 = .ok (.invokevirtual 120, 3) := by decide +kernel
theorem dX5_putOn_103 : decode cX5_putOn 103 = .ok (.iload_n 3, 1) := by decide +kernel
theorem dX5_putOn_104 : decode cX5_putOn 104 = .ok (.ireturn, 1) := by decide +kernel
theorem dX5_swapPlates_0 : decode cX5_swapPlates 0 = .ok (.aload_n 0, 1) := by decide +kernel
theorem dX5_swapPlates_1 : decode cX5_swapPlates 1 = .ok (.iload_n 1, 1) := by decide +kernel
theorem dX5_swapPlates_2 : decode cX5_swapPlates 2 = .ok (.invokevirtual 147, 3) := by decide +kernel
theorem dX5_swapPlates_5 : decode cX5_swapPlates 5 = .ok (.ifCond .eq 11, 3) := by decide +kernel
theorem dX5_swapPlates_8 : decode cX5_swapPlates 8 = .ok (.aload_n 0, 1) := by decide +kernel
theorem dX5_swapPlates_9 : decode cX5_swapPlates 9 = .ok (.iload_n 2, 1) := by decide +kernel
theorem dX5_swapPlates_10 : decode cX5_swapPlates 10 = .ok (.invokevirtual 147, 3) := by decide +kernel
theorem dX5_swapPlates_13 : decode cX5_swapPlates 13 = .ok (.ifCond .ne 9, 3) := by decide +kernel
theorem dX5_swapPlates_16 : decode cX5_swapPlates 16 = .ok (.aload_n 0, 1) := by decide +kernel
theorem dX5_swapPlates_17 : decode cX5_swapPlates 17 = .ok (.iconst 1, 1) := by decide +kernel
theorem dX5_swapPlates_18 : decode cX5_swapPlates 18 = .ok (.invokevirtual 116, 3) := by decide +kernel
theorem dX5_swapPlates_21 : decode cX5_swapPlates 21 = .ok (.ireturn, 1) := by decide +kernel
theorem dX5_swapPlates_22 : decode cX5_swapPlates 22 = .ok (.iload_n 1, 1) := by decide +kernel
theorem dX5_swapPlates_23 : decode cX5_swapPlates 23 = .ok (.iload_n 2, 1) := by decide +kernel
theorem dX5_swapPlates_24 : decode cX5_swapPlates 24 = .ok (.if_icmp .eq 16, 3) := by decide +kernel
theorem dX5_swapPlates_27 : decode cX5_swapPlates 27 = .ok (.aload_n 0, 1) := by decide +kernel
theorem dX5_swapPlates_28 : decode cX5_swapPlates 28 = .ok (.iload_n 1, 1) := by decide +kernel
theorem dX5_swapPlates_29 : decode cX5_swapPlates 29 = .ok (.invokevirtual 160, 3) := by decide +kernel
theorem dX5_swapPlates_32 : decode cX5_swapPlates 32 = .ok (.aload_n 0, 1) := by decide +kernel
theorem dX5_swapPlates_33 : decode cX5_swapPlates 33 = .ok (.iload_n 2, 1) := by decide +kernel
theorem dX5_swapPlates_34 : decode cX5_swapPlates 34 = .ok (.invokevirtual 160, 3) := by decide +kernel
theorem dX5_swapPlates_37 : decode cX5_swapPlates 37 = .ok (.if_icmp .eq 9, 3) := by decide +kernel
theorem dX5_swapPlates_40 : decode cX5_swapPlates 40 = .ok (.aload_n 0, 1) := by decide +kernel
theorem dX5_swapPlates_41 : decode cX5_swapPlates 41 = .ok (.iconst 2, 1) := by decide +kernel
theorem dX5_swapPlates_42 : decode cX5_swapPlates 42 = .ok (.invokevirtual 116, 3) := by decide +kernel
theorem dX5_swapPlates_45 : decode cX5_swapPlates 45 = .ok (.ireturn, 1) := by decide +kernel
theorem dX5_swapPlates_46 : decode cX5_swapPlates 46 = .ok (.aload_n 0, 1) := by decide +kernel
theorem dX5_swapPlates_47 : decode cX5_swapPlates 47 = .ok (.iload_n 1, 1) := by decide +kernel
theorem dX5_swapPlates_48 : decode cX5_swapPlates 48 = .ok (.aload_n 0, 1) := by decide +kernel
theorem dX5_swapPlates_49 : decode cX5_swapPlates 49 = .ok (.getfield 97, 3) := by decide +kernel
theorem dX5_swapPlates_52 : decode cX5_swapPlates 52 = .ok (.invokevirtual 106, 3) := by decide +kernel
theorem dX5_swapPlates_55 : decode cX5_swapPlates 55 = .ok (.istore_n 3, 1) := by decide +kernel
theorem dX5_swapPlates_56 : decode cX5_swapPlates 56 = .ok (.aload_n 0, 1) := by decide +kernel
theorem dX5_swapPlates_57 : decode cX5_swapPlates 57 = .ok (.iload_n 2, 1) := by decide +kernel
theorem dX5_swapPlates_58 : decode cX5_swapPlates 58 = .ok (.aload_n 0, 1) := by decide +kernel
theorem dX5_swapPlates_59 : decode cX5_swapPlates 59 = .ok (.getfield 97, 3) := by decide +kernel
theorem dX5_swapPlates_62 : decode cX5_swapPlates 62 = .ok (.invokevirtual 106, 3) := by decide +kernel
theorem dX5_swapPlates_65 : decode cX5_swapPlates 65 = .ok (.istore 4, 2) := by decide +kernel
theorem dX5_swapPlates_67 : decode cX5_swapPlates 67 = .ok (.aload_n 0, 1) := by decide +kernel
theorem dX5_swapPlates_68 : decode cX5_swapPlates 68 = .ok (.iload_n 1, 1) := by decide +kernel
theorem dX5_swapPlates_69 : decode cX5_swapPlates 69 = .ok (.invokevirtual 157, 3) := by decide +kernel
theorem dX5_swapPlates_72 : decode cX5_swapPlates 72 = .ok (.ifCond .ne 22, 3) := by decide +kernel
theorem dX5_swapPlates_75 : decode cX5_swapPlates 75 = .ok (.aload_n 0, 1) := by decide +kernel
theorem dX5_swapPlates_76 : decode cX5_swapPlates 76 = .ok (.iload_n 2, 1) := by decide +kernel
theorem dX5_swapPlates_77 : decode cX5_swapPlates 77 = .ok (.invokevirtual 157, 3) := by decide +kernel
theorem dX5_swapPlates_80 : decode cX5_swapPlates 80 = .ok (.ifCond .ne 14, 3) := by decide +kernel
theorem dX5_swapPlates_83 : decode cX5_swapPlates 83 = .ok (.iload_n 3, 1) := by decide +kernel
theorem dX5_swapPlates_84 : decode cX5_swapPlates 84 = .ok (.iconst (-1), 1) := by decide +kernel
theorem dX5_swapPlates_85 : decode cX5_swapPlates 85 = .ok (.if_icmp .eq 9, 3) := by decide +kernel
theorem dX5_swapPlates_88 : decode cX5_swapPlates 88 = .ok (.iload 4, 2) := by decide +kernel
theorem dX5_swapPlates_90 : decode cX5_swapPlates 90 = .ok (.iconst (-1), 1) := by decide +kernel
theorem dX5_swapPlates_91 : decode cX5_swapPlates 91 = .ok (.if_icmp .ne 9, 3) := by decide +kernel
theorem dX5_swapPlates_94 : decode cX5_swapPlates 94 = .ok (.aload_n 0, 1) := by decide +kernel
theorem dX5_swapPlates_95 : decode cX5_swapPlates 95 = .ok (.iconst 3, 1) := by decide +kernel
theorem dX5_swapPlates_96 : decode cX5_swapPlates 96 = .ok (.invokevirtual 116, 3) := by decide +kernel
theorem dX5_swapPlates_99 : decode cX5_swapPlates 99 = .ok (.ireturn, 1) := by decide +kernel
theorem dX5_swapPlates_100 : decode cX5_swapPlates 100 = .ok (.aload_n 0, 1) := by decide +kernel
theorem dX5_swapPlates_101 : decode cX5_swapPlates 101 = .ok (.iconst 0, 1) := by decide +kernel
theorem dX5_swapPlates_102 : decode cX5_swapPlates 102 = .ok (.putfield 80, 3) := by decide +kernel
theorem dX5_swapPlates_105 : decode cX5_swapPlates 105 = .ok (.aload_n 0, 1) := by decide +kernel
theorem dX5_swapPlates_106 : decode cX5_swapPlates 106 = .ok (.iload_n 1, 1) := by decide +kernel
theorem dX5_swapPlates_107 : decode cX5_swapPlates 107 = .ok (.iload 4, 2) := by decide +kernel
theorem dX5_swapPlates_109 : decode cX5_swapPlates 109 = .ok (.invokevirtual 120, 3) := by decide +kernel
theorem dX5_swapPlates_112 : decode cX5_swapPlates 112 = .ok (.aload_n 0, 1) := by decide +kernel
theorem dX5_swapPlates_113 : decode cX5_swapPlates 113 = .ok (.iload_n 2, 1) := by decide +kernel
theorem dX5_swapPlates_114 : decode cX5_swapPlates 114 = .ok (.iload_n 3, 1) := by decide +kernel
theorem dX5_swapPlates_115 : decode cX5_swapPlates 115 = .ok (.invokevirtual 120, 3) := by decide +kernel
theorem dX5_swapPlates_118 : decode cX5_swapPlates 118 = .ok (.iload 4, 2) := by decide +kernel
theorem dX5_swapPlates_120 : decode cX5_swapPlates 120 = .ok (.ireturn, 1) := by decide +kernel
theorem dX5_isIssued_0 : decode cX5_isIssued 0 = .ok (.aload_n 0, 1) := by decide +kernel
theorem dX5_isIssued_1 : decode cX5_isIssued 1 = .ok (.aload_n 0, 1) := by decide +kernel
theorem dX5_isIssued_2 : decode cX5_isIssued 2 = .ok (.iload_n 1, 1) := by decide +kernel
theorem dX5_isIssued_3 : decode cX5_isIssued 3 = .ok (.invokevirtual 202, 3) := by decide +kernel
theorem dX5_isIssued_6 : decode cX5_isIssued 6 = .ok (.ifCond .eq 7, 3) := by decide +kernel
theorem dX5_isIssued_9 : decode cX5_isIssued 9 = .ok (.iconst 0, 1) := by decide +kernel
theorem dX5_isIssued_10 : decode cX5_isIssued 10 = .ok (.goto 4, 3) := by decide +kernel
theorem dX5_isIssued_13 : decode cX5_isIssued 13 = .ok (.iconst 1, 1) := by decide +kernel
theorem dX5_isIssued_14 : decode cX5_isIssued 14 = .ok (.putfield 80, 3) := by decide +kernel
theorem dX5_isIssued_17 : decode cX5_isIssued 17 = .ok (.aload_n 0, 1) := by decide +kernel
theorem dX5_isIssued_18 : decode cX5_isIssued 18 = .ok (.getfield 80, 3) := by decide +kernel
theorem dX5_isIssued_21 : decode cX5_isIssued 21 = .ok (.ifCond .ne 7, 3) := by decide +kernel
theorem dX5_isIssued_24 : decode cX5_isIssued 24 = .ok (.iconst 1, 1) := by decide +kernel
theorem dX5_isIssued_25 : decode cX5_isIssued 25 = .ok (.goto 4, 3) := by decide +kernel
theorem dX5_isIssued_28 : decode cX5_isIssued 28 = .ok (.iconst 0, 1) := by decide +kernel
theorem dX5_isIssued_29 : decode cX5_isIssued 29 = .ok (.ireturn, 1) := by decide +kernel
theorem dX5_plateState_0 : decode cX5_plateState 0 = .ok (.aload_n 0, 1) := by decide +kernel
theorem dX5_plateState_1 : decode cX5_plateState 1 = .ok (.iload_n 1, 1) := by decide +kernel
theorem dX5_plateState_2 : decode cX5_plateState 2 = .ok (.invokevirtual 208, 3) := by decide +kernel
theorem dX5_plateState_5 : decode cX5_plateState 5 = .ok (.ifCond .ne 5, 3) := by decide +kernel
theorem dX5_plateState_8 : decode cX5_plateState 8 = .ok (.iconst 0, 1) := by decide +kernel
theorem dX5_plateState_9 : decode cX5_plateState 9 = .ok (.ireturn, 1) := by decide +kernel
theorem dX5_plateState_10 : decode cX5_plateState 10 = .ok (.aload_n 0, 1) := by decide +kernel
theorem dX5_plateState_11 : decode cX5_plateState 11 = .ok (.iload_n 1, 1) := by decide +kernel
theorem dX5_plateState_12 : decode cX5_plateState 12 = .ok (.aload_n 0, 1) := by decide +kernel
theorem dX5_plateState_13 : decode cX5_plateState 13 = .ok (.getfield 97, 3) := by decide +kernel
theorem dX5_plateState_16 : decode cX5_plateState 16 = .ok (.invokevirtual 211, 3) := by decide +kernel
theorem dX5_plateState_19 : decode cX5_plateState 19 = .ok (.iconst (-1), 1) := by decide +kernel
theorem dX5_plateState_20 : decode cX5_plateState 20 = .ok (.if_icmp .eq 8, 3) := by decide +kernel
theorem dX5_plateState_23 : decode cX5_plateState 23 = .ok (.bipush 118, 2) := by decide +kernel
theorem dX5_plateState_25 : decode cX5_plateState 25 = .ok (.goto 18, 3) := by decide +kernel
theorem dX5_plateState_28 : decode cX5_plateState 28 = .ok (.aload_n 0, 1) := by decide +kernel
theorem dX5_plateState_29 : decode cX5_plateState 29 = .ok (.iload_n 1, 1) := by decide +kernel
theorem dX5_plateState_30 : decode cX5_plateState 30 = .ok (.invokevirtual 205, 3) := by decide +kernel
theorem dX5_plateState_33 : decode cX5_plateState 33 = .ok (.ifCond .eq 8, 3) := by decide +kernel
theorem dX5_plateState_36 : decode cX5_plateState 36 = .ok (.bipush 107, 2) := by decide +kernel
theorem dX5_plateState_38 : decode cX5_plateState 38 = .ok (.goto 5, 3) := by decide +kernel
theorem dX5_plateState_41 : decode cX5_plateState 41 = .ok (.bipush 120, 2) := by decide +kernel
theorem dX5_plateState_43 : decode cX5_plateState 43 = .ok (.ireturn, 1) := by decide +kernel
theorem dX5_daysKept_0 : decode cX5_daysKept 0 = .ok (.aload_n 0, 1) := by decide +kernel
theorem dX5_daysKept_1 : decode cX5_daysKept 1 = .ok (.iload_n 1, 1) := by decide +kernel
theorem dX5_daysKept_2 : decode cX5_daysKept 2 = .ok (.invokevirtual 208, 3) := by decide +kernel
theorem dX5_daysKept_5 : decode cX5_daysKept 5 = .ok (.ifCond .ne 5, 3) := by decide +kernel
theorem dX5_daysKept_8 : decode cX5_daysKept 8 = .ok (.iconst 0, 1) := by decide +kernel
theorem dX5_daysKept_9 : decode cX5_daysKept 9 = .ok (.ireturn, 1) := by decide +kernel
theorem dX5_daysKept_10 : decode cX5_daysKept 10 = .ok (.aload_n 0, 1) := by decide +kernel
theorem dX5_daysKept_11 : decode cX5_daysKept 11 = .ok (.iload_n 1, 1) := by decide +kernel
theorem dX5_daysKept_12 : decode cX5_daysKept 12 = .ok (.invokevirtual 205, 3) := by decide +kernel
theorem dX5_daysKept_15 : decode cX5_daysKept 15 = .ok (.ifCond .eq 21, 3) := by decide +kernel
theorem dX5_daysKept_18 : decode cX5_daysKept 18 = .ok (.aload_n 0, 1) := by decide +kernel
theorem dX5_daysKept_19 : decode cX5_daysKept 19 = .ok (.getfield 74, 3) := by decide +kernel
theorem dX5_daysKept_22 : decode cX5_daysKept 22 = .ok (.iload_n 1, 1) := by decide +kernel
theorem dX5_daysKept_23 : decode cX5_daysKept 23 = .ok (.iaload, 1) := by decide +kernel
theorem dX5_daysKept_24 : decode cX5_daysKept 24 = .ok (.sipush 361, 3) := by decide +kernel
theorem dX5_daysKept_27 : decode cX5_daysKept 27 = .ok (.iadd, 1) := by decide +kernel
theorem dX5_daysKept_28 : decode cX5_daysKept 28 = .ok (.aload_n 0, 1) := by decide +kernel
theorem dX5_daysKept_29 : decode cX5_daysKept 29 = .ok (.getfield 97, 3) := by decide +kernel
theorem dX5_daysKept_32 : decode cX5_daysKept 32 = .ok (.isub, 1) := by decide +kernel
theorem dX5_daysKept_33 : decode cX5_daysKept 33 = .ok (.goto 8, 3) := by decide +kernel
theorem dX5_daysKept_36 : decode cX5_daysKept 36 = .ok (.aload_n 0, 1) := by decide +kernel
theorem dX5_daysKept_37 : decode cX5_daysKept 37 = .ok (.iconst 2, 1) := by decide +kernel
theorem dX5_daysKept_38 : decode cX5_daysKept 38 = .ok (.invokevirtual 116, 3) := by decide +kernel
theorem dX5_daysKept_41 : decode cX5_daysKept 41 = .ok (.ireturn, 1) := by decide +kernel
theorem dX5_plates_0 : decode cX5_plates 0 = .ok (.aload_n 0, 1) := by decide +kernel
theorem dX5_plates_1 : decode cX5_plates 1 = .ok (.iconst 0, 1) := by decide +kernel
theorem dX5_plates_2 : decode cX5_plates 2 = .ok (.putfield 80, 3) := by decide +kernel
theorem dX5_plates_5 : decode cX5_plates 5 = .ok (.aload_n 0, 1) := by decide +kernel
theorem dX5_plates_6 : decode cX5_plates 6 = .ok (.getfield 94, 3) := by decide +kernel
theorem dX5_plates_9 : decode cX5_plates 9 = .ok (.ireturn, 1) := by decide +kernel
theorem dX5_plateOn_0 : decode cX5_plateOn 0 = .ok (.aload_n 0, 1) := by decide +kernel
theorem dX5_plateOn_1 : decode cX5_plateOn 1 = .ok (.iload_n 1, 1) := by decide +kernel
theorem dX5_plateOn_2 : decode cX5_plateOn 2 = .ok (.invokevirtual 147, 3) := by decide +kernel
theorem dX5_plateOn_5 : decode cX5_plateOn 5 = .ok (.ifCond .ne 9, 3) := by decide +kernel
theorem dX5_plateOn_8 : decode cX5_plateOn 8 = .ok (.aload_n 0, 1) := by decide +kernel
theorem dX5_plateOn_9 : decode cX5_plateOn 9 = .ok (.iconst 1, 1) := by decide +kernel
theorem dX5_plateOn_10 : decode cX5_plateOn 10 = .ok (.invokevirtual 116, 3) := by decide +kernel
theorem dX5_plateOn_13 : decode cX5_plateOn 13 = .ok (.ireturn, 1) := by decide +kernel
theorem dX5_plateOn_14 : decode cX5_plateOn 14 = .ok (.aload_n 0, 1) := by decide +kernel
theorem dX5_plateOn_15 : decode cX5_plateOn 15 = .ok (.iload_n 2, 1) := by decide +kernel
theorem dX5_plateOn_16 : decode cX5_plateOn 16 = .ok (.invokevirtual 154, 3) := by decide +kernel
theorem dX5_plateOn_19 : decode cX5_plateOn 19 = .ok (.ifCond .ne 9, 3) := by decide +kernel
theorem dX5_plateOn_22 : decode cX5_plateOn 22 = .ok (.aload_n 0, 1) := by decide +kernel
theorem dX5_plateOn_23 : decode cX5_plateOn 23 = .ok (.iconst 2, 1) := by decide +kernel
theorem dX5_plateOn_24 : decode cX5_plateOn 24 = .ok (.invokevirtual 116, 3) := by decide +kernel
theorem dX5_plateOn_27 : decode cX5_plateOn 27 = .ok (.ireturn, 1) := by decide +kernel
theorem dX5_plateOn_28 : decode cX5_plateOn 28 = .ok (.aload_n 0, 1) := by decide +kernel
theorem dX5_plateOn_29 : decode cX5_plateOn 29 = .ok (.iload_n 1, 1) := by decide +kernel
theorem dX5_plateOn_30 : decode cX5_plateOn 30 = .ok (.iload_n 2, 1) := by decide +kernel
theorem dX5_plateOn_31 : decode cX5_plateOn 31 = .ok (.invokevirtual 106, 3) := by decide +kernel
theorem dX5_plateOn_34 : decode cX5_plateOn 34 = .ok (.istore_n 3, 1) := by decide +kernel
theorem dX5_plateOn_35 : decode cX5_plateOn 35 = .ok (.aload_n 0, 1) := by decide +kernel
theorem dX5_plateOn_36 : decode cX5_plateOn 36 = .ok (.iload_n 3, 1) := by decide +kernel
theorem dX5_plateOn_37 : decode cX5_plateOn 37 = .ok (.iconst (-1), 1) := by decide +kernel
theorem dX5_plateOn_38 : decode cX5_plateOn 38 = .ok (.if_icmp .ne 7, 3) := by decide +kernel
theorem dX5_plateOn_41 : decode cX5_plateOn 41 = .ok (.iconst 3, 1) := by decide +kernel
theorem dX5_plateOn_42 : decode cX5_plateOn 42 = .ok (.goto 4, 3) := by decide +kernel
theorem dX5_plateOn_45 : decode cX5_plateOn 45 = .ok (.iconst 0, 1) := by decide +kernel
theorem dX5_plateOn_46 : decode cX5_plateOn 46 = .ok (.putfield 80, 3) := by decide +kernel
theorem dX5_plateOn_49 : decode cX5_plateOn 49 = .ok (.iload_n 3, 1) := by decide +kernel
theorem dX5_plateOn_50 : decode cX5_plateOn 50 = .ok (.iconst (-1), 1) := by decide +kernel
theorem dX5_plateOn_51 : decode cX5_plateOn 51 = .ok (.if_icmp .ne 7, 3) := by decide +kernel
theorem dX5_plateOn_54 : decode cX5_plateOn 54 = .ok (.iconst 0, 1) := by decide +kernel
theorem dX5_plateOn_55 : decode cX5_plateOn 55 = .ok (.goto 4, 3) := by decide +kernel
theorem dX5_plateOn_58 : decode cX5_plateOn 58 = .ok (.iload_n 3, 1) := by decide +kernel
theorem dX5_plateOn_59 : decode cX5_plateOn 59 = .ok (.ireturn, 1) := by decide +kernel
theorem dX5_vehicleWith_0 : decode cX5_vehicleWith 0 = .ok (.aload_n 0, 1) := by decide +kernel
theorem dX5_vehicleWith_1 : decode cX5_vehicleWith 1 = .ok (.iload_n 1, 1) := by decide +kernel
theorem dX5_vehicleWith_2 : decode cX5_vehicleWith 2 = .ok (.invokevirtual 202, 3) := by decide +kernel
theorem dX5_vehicleWith_5 : decode cX5_vehicleWith 5 = .ok (.ifCond .ne 9, 3) := by decide +kernel
theorem dX5_vehicleWith_8 : decode cX5_vehicleWith 8 = .ok (.aload_n 0, 1) := by decide +kernel
theorem dX5_vehicleWith_9 : decode cX5_vehicleWith 9 = .ok (.iconst 1, 1) := by decide +kernel
theorem dX5_vehicleWith_10 : decode cX5_vehicleWith 10 = .ok (.invokevirtual 116, 3) := by decide +kernel
theorem dX5_vehicleWith_13 : decode cX5_vehicleWith 13 = .ok (.ireturn, 1) := by decide +kernel
theorem dX5_vehicleWith_14 : decode cX5_vehicleWith 14 = .ok (.aload_n 0, 1) := by decide +kernel
theorem dX5_vehicleWith_15 : decode cX5_vehicleWith 15 = .ok (.iload_n 2, 1) := by decide +kernel
theorem dX5_vehicleWith_16 : decode cX5_vehicleWith 16 = .ok (.invokevirtual 154, 3) := by decide +kernel
theorem dX5_vehicleWith_19 : decode cX5_vehicleWith 19 = .ok (.ifCond .ne 9, 3) := by decide +kernel
theorem dX5_vehicleWith_22 : decode cX5_vehicleWith 22 = .ok (.aload_n 0, 1) := by decide +kernel
theorem dX5_vehicleWith_23 : decode cX5_vehicleWith 23 = .ok (.iconst 2, 1) := by decide +kernel
theorem dX5_vehicleWith_24 : decode cX5_vehicleWith 24 = .ok (.invokevirtual 116, 3) := by decide +kernel
theorem dX5_vehicleWith_27 : decode cX5_vehicleWith 27 = .ok (.ireturn, 1) := by decide +kernel
theorem dX5_vehicleWith_28 : decode cX5_vehicleWith 28 = .ok (.aload_n 0, 1) := by decide +kernel
theorem dX5_vehicleWith_29 : decode cX5_vehicleWith 29 = .ok (.iload_n 1, 1) := by decide +kernel
theorem dX5_vehicleWith_30 : decode cX5_vehicleWith 30 = .ok (.iload_n 2, 1) := by decide +kernel
theorem dX5_vehicleWith_31 : decode cX5_vehicleWith 31 = .ok (.invokevirtual 211, 3) := by decide +kernel
theorem dX5_vehicleWith_34 : decode cX5_vehicleWith 34 = .ok (.istore_n 3, 1) := by decide +kernel
theorem dX5_vehicleWith_35 : decode cX5_vehicleWith 35 = .ok (.aload_n 0, 1) := by decide +kernel
theorem dX5_vehicleWith_36 : decode cX5_vehicleWith 36 = .ok (.iload_n 3, 1) := by decide +kernel
theorem dX5_vehicleWith_37 : decode cX5_vehicleWith 37 = .ok (.iconst (-1), 1) := by decide +kernel
theorem dX5_vehicleWith_38 : decode cX5_vehicleWith 38 = .ok (.if_icmp .ne 7, 3) := by decide +kernel
theorem dX5_vehicleWith_41 : decode cX5_vehicleWith 41 = .ok (.iconst 3, 1) := by decide +kernel
theorem dX5_vehicleWith_42 : decode cX5_vehicleWith 42 = .ok (.goto 4, 3) := by decide +kernel
theorem dX5_vehicleWith_45 : decode cX5_vehicleWith 45 = .ok (.iconst 0, 1) := by decide +kernel
theorem dX5_vehicleWith_46 : decode cX5_vehicleWith 46 = .ok (.putfield 80, 3) := by decide +kernel
theorem dX5_vehicleWith_49 : decode cX5_vehicleWith 49 = .ok (.iload_n 3, 1) := by decide +kernel
theorem dX5_vehicleWith_50 : decode cX5_vehicleWith 50 = .ok (.iconst (-1), 1) := by decide +kernel
theorem dX5_vehicleWith_51 : decode cX5_vehicleWith 51 = .ok (.if_icmp .ne 7, 3) := by decide +kernel
theorem dX5_vehicleWith_54 : decode cX5_vehicleWith 54 = .ok (.iconst 0, 1) := by decide +kernel
theorem dX5_vehicleWith_55 : decode cX5_vehicleWith 55 = .ok (.goto 4, 3) := by decide +kernel
theorem dX5_vehicleWith_58 : decode cX5_vehicleWith 58 = .ok (.iload_n 3, 1) := by decide +kernel
theorem dX5_vehicleWith_59 : decode cX5_vehicleWith 59 = .ok (.ireturn, 1) := by decide +kernel
theorem dX5_vehicleByVehicles_0 : decode cX5_vehicleByVehicles 0 = .ok (.aload_n 0, 1) := by decide +kernel
theorem dX5_vehicleByVehicles_1 : decode cX5_vehicleByVehicles 1 = .ok (.iload_n 1, 1) := by decide +kernel
theorem dX5_vehicleByVehicles_2 : decode cX5_vehicleByVehicles 2 = .ok (.iload_n 2, 1) := by decide +kernel
theorem dX5_vehicleByVehicles_3 : decode cX5_vehicleByVehicles 3 = .ok (.invokevirtual 214, 3) := by decide +kernel
theorem dX5_vehicleByVehicles_6 : decode cX5_vehicleByVehicles 6 = .ok (.ireturn, 1) := by decide +kernel
theorem dX5_first_0 : decode cX5_first 0 = .ok (.bipush 90, 2) := by decide +kernel
theorem dX5_first_2 : decode cX5_first 2 = .ok (.iload_n 2, 1) := by decide +kernel
theorem dX5_first_3 : decode cX5_first 3 = .ok (.imul, 1) := by decide +kernel
theorem dX5_first_4 : decode cX5_first 4 = .ok (.istore_n 3, 1) := by decide +kernel
theorem dX5_first_5 : decode cX5_first 5 = .ok (.iload_n 3, 1) := by decide +kernel
theorem dX5_first_6 : decode cX5_first 6 = .ok (.bipush 90, 2) := by decide +kernel
theorem dX5_first_8 : decode cX5_first 8 = .ok (.iadd, 1) := by decide +kernel
theorem dX5_first_9 : decode cX5_first 9 = .ok (.iconst 1, 1) := by decide +kernel
theorem dX5_first_10 : decode cX5_first 10 = .ok (.isub, 1) := by decide +kernel
theorem dX5_first_11 : decode cX5_first 11 = .ok (.aload_n 0, 1) := by decide +kernel
theorem dX5_first_12 : decode cX5_first 12 = .ok (.getfield 97, 3) := by decide +kernel
theorem dX5_first_15 : decode cX5_first 15 = .ok (.if_icmp .ge 12, 3) := by decide +kernel
theorem dX5_first_18 : decode cX5_first 18 = .ok (.iload_n 3, 1) := by decide +kernel
theorem dX5_first_19 : decode cX5_first 19 = .ok (.bipush 90, 2) := by decide +kernel
theorem dX5_first_21 : decode cX5_first 21 = .ok (.iadd, 1) := by decide +kernel
theorem dX5_first_22 : decode cX5_first 22 = .ok (.iconst 1, 1) := by decide +kernel
theorem dX5_first_23 : decode cX5_first 23 = .ok (.isub, 1) := by decide +kernel
theorem dX5_first_24 : decode cX5_first 24 = .ok (.goto 7, 3) := by decide +kernel
theorem dX5_first_27 : decode cX5_first 27 = .ok (.aload_n 0, 1) := by decide +kernel
theorem dX5_first_28 : decode cX5_first 28 = .ok (.getfield 97, 3) := by decide +kernel
theorem dX5_first_31 : decode cX5_first 31 = .ok (.istore 4, 2) := by decide +kernel
theorem dX5_first_33 : decode cX5_first 33 = .ok (.iconst 0, 1) := by decide +kernel
theorem dX5_first_34 : decode cX5_first 34 = .ok (.istore 5, 2) := by decide +kernel
theorem dX5_first_36 : decode cX5_first 36 = .ok (.iconst 0, 1) := by decide +kernel
theorem dX5_first_37 : decode cX5_first 37 = .ok (.istore 6, 2) := by decide +kernel
theorem dX5_first_39 : decode cX5_first 39 = .ok (.iload 6, 2) := by decide +kernel
theorem dX5_first_41 : decode cX5_first 41 = .ok (.aload_n 0, 1) := by decide +kernel
theorem dX5_first_42 : decode cX5_first 42 = .ok (.getfield 100, 3) := by decide +kernel
theorem dX5_first_45 : decode cX5_first 45 = .ok (.if_icmp .ge 85, 3) := by decide +kernel
theorem dX5_first_48 : decode cX5_first 48 = .ok (.aload_n 0, 1) := by decide +kernel
theorem dX5_first_49 : decode cX5_first 49 = .ok (.getfield 53, 3) := by decide +kernel
theorem dX5_first_52 : decode cX5_first 52 = .ok (.iload 6, 2) := by decide +kernel
theorem dX5_first_54 : decode cX5_first 54 = .ok (.iaload, 1) := by decide +kernel
theorem dX5_first_55 : decode cX5_first 55 = .ok (.iload_n 1, 1) := by decide +kernel
theorem dX5_first_56 : decode cX5_first 56 = .ok (.if_icmp .eq 6, 3) := by decide +kernel
theorem dX5_first_59 : decode cX5_first 59 = .ok (.goto 65, 3) := by decide +kernel
theorem dX5_first_62 : decode cX5_first 62 = .ok (.aload_n 0, 1) := by decide +kernel
theorem dX5_first_63 : decode cX5_first 63 = .ok (.getfield 56, 3) := by decide +kernel
theorem dX5_first_66 : decode cX5_first 66 = .ok (.iload 6, 2) := by decide +kernel
theorem dX5_first_68 : decode cX5_first 68 = .ok (.iaload, 1) := by decide +kernel
theorem dX5_first_69 : decode cX5_first 69 = .ok (.iload_n 3, 1) := by decide +kernel
theorem dX5_first_70 : decode cX5_first 70 = .ok (.if_icmp .gt 15, 3) := by decide +kernel
theorem dX5_first_73 : decode cX5_first 73 = .ok (.aload_n 0, 1) := by decide +kernel
theorem dX5_first_74 : decode cX5_first 74 = .ok (.getfield 59, 3) := by decide +kernel
theorem dX5_first_77 : decode cX5_first 77 = .ok (.iload 6, 2) := by decide +kernel
theorem dX5_first_79 : decode cX5_first 79 = .ok (.baload, 1) := by decide +kernel
theorem dX5_first_80 : decode cX5_first 80 = .ok (.istore 5, 2) := by decide +kernel
theorem dX5_first_82 : decode cX5_first 82 = .ok (.goto 42, 3) := by decide +kernel
theorem dX5_first_85 : decode cX5_first 85 = .ok (.iload 5, 2) := by decide +kernel
theorem dX5_first_87 : decode cX5_first 87 = .ok (.ifCond .eq 5, 3) := by decide +kernel
theorem dX5_first_90 : decode cX5_first 90 = .ok (.iload_n 3, 1) := by decide +kernel
theorem dX5_first_91 : decode cX5_first 91 = .ok (.ireturn, 1) := by decide +kernel
theorem dX5_first_92 : decode cX5_first 92 = .ok (.aload_n 0, 1) := by decide +kernel
theorem dX5_first_93 : decode cX5_first 93 = .ok (.getfield 56, 3) := by decide +kernel
theorem dX5_first_96 : decode cX5_first 96 = .ok (.iload 6, 2) := by decide +kernel
theorem dX5_first_98 : decode cX5_first 98 = .ok (.iaload, 1) := by decide +kernel
theorem dX5_first_99 : decode cX5_first 99 = .ok (.iload 4, 2) := by decide +kernel
theorem dX5_first_101 : decode cX5_first 101 = .ok (.if_icmp .le 5, 3) := by decide +kernel
theorem dX5_first_104 : decode cX5_first 104 = .ok (.iconst (-1), 1) := by decide +kernel
theorem dX5_first_105 : decode cX5_first 105 = .ok (.ireturn, 1) := by decide +kernel
theorem dX5_first_106 : decode cX5_first 106 = .ok (.aload_n 0, 1) := by decide +kernel
theorem dX5_first_107 : decode cX5_first 107 = .ok (.getfield 59, 3) := by decide +kernel
theorem dX5_first_110 : decode cX5_first 110 = .ok (.iload 6, 2) := by decide +kernel
theorem dX5_first_112 : decode cX5_first 112 = .ok (.baload, 1) := by decide +kernel
theorem dX5_first_113 : decode cX5_first 113 = .ok (.ifCond .eq 11, 3) := by decide +kernel
theorem dX5_first_116 : decode cX5_first 116 = .ok (.aload_n 0, 1) := by decide +kernel
theorem dX5_first_117 : decode cX5_first 117 = .ok (.getfield 56, 3) := by decide +kernel
theorem dX5_first_120 : decode cX5_first 120 = .ok (.iload 6, 2) := by decide +kernel
theorem dX5_first_122 : decode cX5_first 122 = .ok (.iaload, 1) := by decide +kernel
theorem dX5_first_123 : decode cX5_first 123 = .ok (.ireturn, 1) := by decide +kernel
theorem dX5_first_124 : decode cX5_first 124 = .ok (.iinc 6 1, 3) := by decide +kernel
theorem dX5_first_127 : decode cX5_first 127 = .ok (.goto (-88), 3) := by decide +kernel
theorem dX5_first_130 : decode cX5_first 130 = .ok (.iload 5, 2) := by decide +kernel
theorem dX5_first_132 : decode cX5_first 132 = .ok (.ifCond .eq 7, 3) := by decide +kernel
theorem dX5_first_135 : decode cX5_first 135 = .ok (.iload_n 3, 1) := by decide +kernel
theorem dX5_first_136 : decode cX5_first 136 = .ok (.goto 4, 3) := by decide +kernel
theorem dX5_first_139 : decode cX5_first 139 = .ok (.iconst (-1), 1) := by decide +kernel
theorem dX5_first_140 : decode cX5_first 140 = .ok (.ireturn, 1) := by decide +kernel
theorem dX5_due_0 : decode cX5_due 0 = .ok (.aload_n 0, 1) := by decide +kernel
theorem dX5_due_1 : decode cX5_due 1 = .ok (.iload_n 1, 1) := by decide +kernel
theorem dX5_due_2 : decode cX5_due 2 = .ok (.invokevirtual 147, 3) := by decide +kernel
theorem dX5_due_5 : decode cX5_due 5 = .ok (.ifCond .ne 9, 3) := by decide +kernel
theorem dX5_due_8 : decode cX5_due 8 = .ok (.aload_n 0, 1) := by decide +kernel
theorem dX5_due_9 : decode cX5_due 9 = .ok (.iconst 1, 1) := by decide +kernel
theorem dX5_due_10 : decode cX5_due 10 = .ok (.invokevirtual 116, 3) := by decide +kernel
theorem dX5_due_13 : decode cX5_due 13 = .ok (.ireturn, 1) := by decide +kernel
theorem dX5_due_14 : decode cX5_due 14 = .ok (.iload_n 2, 1) := by decide +kernel
theorem dX5_due_15 : decode cX5_due 15 = .ok (.ifCond .lt 14, 3) := by decide +kernel
theorem dX5_due_18 : decode cX5_due 18 = .ok (.iload_n 2, 1) := by decide +kernel
theorem dX5_due_19 : decode cX5_due 19 = .ok (.aload_n 0, 1) := by decide +kernel
theorem dX5_due_20 : decode cX5_due 20 = .ok (.getfield 97, 3) := by decide +kernel
theorem dX5_due_23 : decode cX5_due 23 = .ok (.bipush 90, 2) := by decide +kernel
theorem dX5_due_25 : decode cX5_due 25 = .ok (.idiv, 1) := by decide +kernel
theorem dX5_due_26 : decode cX5_due 26 = .ok (.if_icmp .le 9, 3) := by decide +kernel
theorem dX5_due_29 : decode cX5_due 29 = .ok (.aload_n 0, 1) := by decide +kernel
theorem dX5_due_30 : decode cX5_due 30 = .ok (.iconst 2, 1) := by decide +kernel
theorem dX5_due_31 : decode cX5_due 31 = .ok (.invokevirtual 116, 3) := by decide +kernel
theorem dX5_due_34 : decode cX5_due 34 = .ok (.ireturn, 1) := by decide +kernel
theorem dX5_due_35 : decode cX5_due 35 = .ok (.aload_n 0, 1) := by decide +kernel
theorem dX5_due_36 : decode cX5_due 36 = .ok (.iconst 0, 1) := by decide +kernel
theorem dX5_due_37 : decode cX5_due 37 = .ok (.putfield 80, 3) := by decide +kernel
theorem dX5_due_40 : decode cX5_due 40 = .ok (.aload_n 0, 1) := by decide +kernel
theorem dX5_due_41 : decode cX5_due 41 = .ok (.iload_n 1, 1) := by decide +kernel
theorem dX5_due_42 : decode cX5_due 42 = .ok (.iload_n 2, 1) := by decide +kernel
theorem dX5_due_43 : decode cX5_due 43 = .ok (.invokevirtual 217, 3) := by decide +kernel
theorem dX5_due_46 : decode cX5_due 46 = .ok (.iconst (-1), 1) := by decide +kernel
theorem dX5_due_47 : decode cX5_due 47 = .ok (.if_icmp .ne 7, 3) := by decide +kernel
theorem dX5_due_50 : decode cX5_due 50 = .ok (.iconst 0, 1) := by decide +kernel
theorem dX5_due_51 : decode cX5_due 51 = .ok (.goto 12, 3) := by decide +kernel
theorem dX5_due_54 : decode cX5_due 54 = .ok (.aload_n 0, 1) := by decide +kernel
theorem dX5_due_55 : decode cX5_due 55 = .ok (.getfield 13, 3) := by decide +kernel
theorem dX5_due_58 : decode cX5_due 58 = .ok (.iload_n 1, 1) := by decide +kernel
theorem dX5_due_59 : decode cX5_due 59 = .ok (.iaload, 1) := by decide +kernel
theorem dX5_due_60 : decode cX5_due 60 = .ok (.invokestatic 220, 3) := by decide +kernel
theorem dX5_due_63 : decode cX5_due 63 = .ok (.ireturn, 1) := by decide +kernel
theorem dX5_debt_0 : decode cX5_debt 0 = .ok (.aload_n 0, 1) := by decide +kernel
theorem dX5_debt_1 : decode cX5_debt 1 = .ok (.getfield 7, 3) := by decide +kernel
theorem dX5_debt_4 : decode cX5_debt 4 = .ok (.iload_n 1, 1) := by decide +kernel
theorem dX5_debt_5 : decode cX5_debt 5 = .ok (.iaload, 1) := by decide +kernel
theorem dX5_debt_6 : decode cX5_debt 6 = .ok (.ineg, 1) := by decide +kernel
theorem dX5_debt_7 : decode cX5_debt 7 = .ok (.istore_n 2, 1) := by decide +kernel
theorem dX5_debt_8 : decode cX5_debt 8 = .ok (.iconst 0, 1) := by decide +kernel
theorem dX5_debt_9 : decode cX5_debt 9 = .ok (.istore_n 3, 1) := by decide +kernel
theorem dX5_debt_10 : decode cX5_debt 10 = .ok (.iload_n 3, 1) := by decide +kernel
theorem dX5_debt_11 : decode cX5_debt 11 = .ok (.aload_n 0, 1) := by decide +kernel
theorem dX5_debt_12 : decode cX5_debt 12 = .ok (.getfield 91, 3) := by decide +kernel
theorem dX5_debt_15 : decode cX5_debt 15 = .ok (.if_icmp .ge 68, 3) := by decide +kernel
theorem dX5_debt_18 : decode cX5_debt 18 = .ok (.iconst 0, 1) := by decide +kernel
theorem dX5_debt_19 : decode cX5_debt 19 = .ok (.istore 4, 2) := by decide +kernel
theorem dX5_debt_21 : decode cX5_debt 21 = .ok (.iload 4, 2) := by decide +kernel
theorem dX5_debt_23 : decode cX5_debt 23 = .ok (.aload_n 0, 1) := by decide +kernel
theorem dX5_debt_24 : decode cX5_debt 24 = .ok (.getfield 97, 3) := by decide +kernel
theorem dX5_debt_27 : decode cX5_debt 27 = .ok (.bipush 90, 2) := by decide +kernel
theorem dX5_debt_29 : decode cX5_debt 29 = .ok (.idiv, 1) := by decide +kernel
theorem dX5_debt_30 : decode cX5_debt 30 = .ok (.if_icmp .gt 47, 3) := by decide +kernel
theorem dX5_debt_33 : decode cX5_debt 33 = .ok (.aload_n 0, 1) := by decide +kernel
theorem dX5_debt_34 : decode cX5_debt 34 = .ok (.iload_n 3, 1) := by decide +kernel
theorem dX5_debt_35 : decode cX5_debt 35 = .ok (.iload 4, 2) := by decide +kernel
theorem dX5_debt_37 : decode cX5_debt 37 = .ok (.invokevirtual 217, 3) := by decide +kernel
theorem dX5_debt_40 : decode cX5_debt 40 = .ok (.istore 5, 2) := by decide +kernel
theorem dX5_debt_42 : decode cX5_debt 42 = .ok (.iload 5, 2) := by decide +kernel
theorem dX5_debt_44 : decode cX5_debt 44 = .ok (.iconst (-1), 1) := by decide +kernel
theorem dX5_debt_45 : decode cX5_debt 45 = .ok (.if_icmp .eq 26, 3) := by decide +kernel
theorem dX5_debt_48 : decode cX5_debt 48 = .ok (.aload_n 0, 1) := by decide +kernel
theorem dX5_debt_49 : decode cX5_debt 49 = .ok (.iload_n 3, 1) := by decide +kernel
theorem dX5_debt_50 : decode cX5_debt 50 = .ok (.iload 5, 2) := by decide +kernel
theorem dX5_debt_52 : decode cX5_debt 52 = .ok (.invokevirtual 113, 3) := by decide +kernel
theorem dX5_debt_55 : decode cX5_debt 55 = .ok (.iload_n 1, 1) := by decide +kernel
theorem dX5_debt_56 : decode cX5_debt 56 = .ok (.if_icmp .ne 15, 3) := by decide +kernel
theorem dX5_debt_59 : decode cX5_debt 59 = .ok (.iload_n 2, 1) := by decide +kernel
theorem dX5_debt_60 : decode cX5_debt 60 = .ok (.aload_n 0, 1) := by decide +kernel
theorem dX5_debt_61 : decode cX5_debt 61 = .ok (.getfield 13, 3) := by decide +kernel
theorem dX5_debt_64 : decode cX5_debt 64 = .ok (.iload_n 3, 1) := by decide +kernel
theorem dX5_debt_65 : decode cX5_debt 65 = .ok (.iaload, 1) := by decide +kernel
theorem dX5_debt_66 : decode cX5_debt 66 = .ok (.invokestatic 220, 3) := by decide +kernel
theorem dX5_debt_69 : decode cX5_debt 69 = .ok (.iadd, 1) := by decide +kernel
theorem dX5_debt_70 : decode cX5_debt 70 = .ok (.istore_n 2, 1) := by decide +kernel
theorem dX5_debt_71 : decode cX5_debt 71 = .ok (.iinc 4 1, 3) := by decide +kernel
theorem dX5_debt_74 : decode cX5_debt 74 = .ok (.goto (-53), 3) := by decide +kernel
theorem dX5_debt_77 : decode cX5_debt 77 = .ok (.iinc 3 1, 3) := by decide +kernel
theorem dX5_debt_80 : decode cX5_debt 80 = .ok (.goto (-70), 3) := by decide +kernel
theorem dX5_debt_83 : decode cX5_debt 83 = .ok (.iload_n 2, 1) := by decide +kernel
theorem dX5_debt_84 : decode cX5_debt 84 = .ok (.ireturn, 1) := by decide +kernel
theorem dX5_owes_0 : decode cX5_owes 0 = .ok (.aload_n 0, 1) := by decide +kernel
theorem dX5_owes_1 : decode cX5_owes 1 = .ok (.aload_n 0, 1) := by decide +kernel
theorem dX5_owes_2 : decode cX5_owes 2 = .ok (.iload_n 1, 1) := by decide +kernel
theorem dX5_owes_3 : decode cX5_owes 3 = .ok (.invokevirtual 124, 3) := by decide +kernel
theorem dX5_owes_6 : decode cX5_owes 6 = .ok (.ifCond .eq 7, 3) := by decide +kernel
theorem dX5_owes_9 : decode cX5_owes 9 = .ok (.iconst 0, 1) := by decide +kernel
theorem dX5_owes_10 : decode cX5_owes 10 = .ok (.goto 4, 3) := by decide +kernel
theorem dX5_owes_13 : decode cX5_owes 13 = .ok (.iconst 1, 1) := by decide +kernel
theorem dX5_owes_14 : decode cX5_owes 14 = .ok (.putfield 80, 3) := by decide +kernel
theorem dX5_owes_17 : decode cX5_owes 17 = .ok (.aload_n 0, 1) := by decide +kernel
theorem dX5_owes_18 : decode cX5_owes 18 = .ok (.getfield 80, 3) := by decide +kernel
theorem dX5_owes_21 : decode cX5_owes 21 = .ok (.ifCond .le 7, 3) := by decide +kernel
theorem dX5_owes_24 : decode cX5_owes 24 = .ok (.iconst 0, 1) := by decide +kernel
theorem dX5_owes_25 : decode cX5_owes 25 = .ok (.goto 8, 3) := by decide +kernel
theorem dX5_owes_28 : decode cX5_owes 28 = .ok (.aload_n 0, 1) := by decide +kernel
theorem dX5_owes_29 : decode cX5_owes 29 = .ok (.iload_n 1, 1) := by decide +kernel
theorem dX5_owes_30 : decode cX5_owes 30 = .ok (.invokevirtual 223, 3) := by decide +kernel
theorem dX5_owes_33 : decode cX5_owes 33 = .ok (.ireturn, 1) := by decide +kernel
theorem dX5_owesByDays_0 : decode cX5_owesByDays 0 = .ok (.aload_n 0, 1) := by decide +kernel
theorem dX5_owesByDays_1 : decode cX5_owesByDays 1 = .ok (.iload_n 1, 1) := by decide +kernel
theorem dX5_owesByDays_2 : decode cX5_owesByDays 2 = .ok (.invokevirtual 226, 3) := by decide +kernel
theorem dX5_owesByDays_5 : decode cX5_owesByDays 5 = .ok (.ireturn, 1) := by decide +kernel
theorem dX5_pay_0 : decode cX5_pay 0 = .ok (.aload_n 0, 1) := by decide +kernel
theorem dX5_pay_1 : decode cX5_pay 1 = .ok (.iload_n 1, 1) := by decide +kernel
theorem dX5_pay_2 : decode cX5_pay 2 = .ok (.invokevirtual 124, 3) := by decide +kernel
theorem dX5_pay_5 : decode cX5_pay 5 = .ok (.ifCond .ne 9, 3) := by decide +kernel
theorem dX5_pay_8 : decode cX5_pay 8 = .ok (.aload_n 0, 1) := by decide +kernel
theorem dX5_pay_9 : decode cX5_pay 9 = .ok (.iconst 1, 1) := by decide +kernel
theorem dX5_pay_10 : decode cX5_pay 10 = .ok (.invokevirtual 116, 3) := by decide +kernel
theorem dX5_pay_13 : decode cX5_pay 13 = .ok (.ireturn, 1) := by decide +kernel
theorem dX5_pay_14 : decode cX5_pay 14 = .ok (.iload_n 2, 1) := by decide +kernel
theorem dX5_pay_15 : decode cX5_pay 15 = .ok (.iconst 1, 1) := by decide +kernel
theorem dX5_pay_16 : decode cX5_pay 16 = .ok (.sipush 9999, 3) := by decide +kernel
theorem dX5_pay_19 : decode cX5_pay 19 = .ok (.invokestatic 87, 3) := by decide +kernel
theorem dX5_pay_22 : decode cX5_pay 22 = .ok (.ifCond .ne 9, 3) := by decide +kernel
theorem dX5_pay_25 : decode cX5_pay 25 = .ok (.aload_n 0, 1) := by decide +kernel
theorem dX5_pay_26 : decode cX5_pay 26 = .ok (.iconst 2, 1) := by decide +kernel
theorem dX5_pay_27 : decode cX5_pay 27 = .ok (.invokevirtual 116, 3) := by decide +kernel
theorem dX5_pay_30 : decode cX5_pay 30 = .ok (.ireturn, 1) := by decide +kernel
theorem dX5_pay_31 : decode cX5_pay 31 = .ok (.aload_n 0, 1) := by decide +kernel
theorem dX5_pay_32 : decode cX5_pay 32 = .ok (.iconst 0, 1) := by decide +kernel
theorem dX5_pay_33 : decode cX5_pay 33 = .ok (.putfield 80, 3) := by decide +kernel
theorem dX5_pay_36 : decode cX5_pay 36 = .ok (.aload_n 0, 1) := by decide +kernel
theorem dX5_pay_37 : decode cX5_pay 37 = .ok (.getfield 7, 3) := by decide +kernel
theorem dX5_pay_40 : decode cX5_pay 40 = .ok (.iload_n 1, 1) := by decide +kernel
theorem dX5_pay_41 : decode cX5_pay 41 = .ok (.dup2, 1) := by decide +kernel
theorem dX5_pay_42 : decode cX5_pay 42 = .ok (.iaload, 1) := by decide +kernel
theorem dX5_pay_43 : decode cX5_pay 43 = .ok (.iload_n 2, 1) := by decide +kernel
theorem dX5_pay_44 : decode cX5_pay 44 = .ok (.iadd, 1) := by decide +kernel
theorem dX5_pay_45 : decode cX5_pay 45 = .ok (.iastore, 1) := by decide +kernel
theorem dX5_pay_46 : decode cX5_pay 46 = .ok (.aload_n 0, 1) := by decide +kernel
theorem dX5_pay_47 : decode cX5_pay 47 = .ok (.dup, 1) := by decide +kernel
theorem dX5_pay_48 : decode cX5_pay 48 = .ok (.getfield 229, 3) := by decide +kernel
theorem dX5_pay_51 : decode cX5_pay 51 = .ok (.iload_n 2, 1) := by decide +kernel
theorem dX5_pay_52 : decode cX5_pay 52 = .ok (.i2l, 1) := by decide +kernel
theorem dX5_pay_53 : decode cX5_pay 53 = .ok (.ladd, 1) := by decide +kernel
theorem dX5_pay_54 : decode cX5_pay 54 = .ok (.putfield 229, 3) := by decide +kernel
theorem dX5_pay_57 : decode cX5_pay 57 = .ok (.aload_n 0, 1) := by decide +kernel
theorem dX5_pay_58 : decode cX5_pay 58 = .ok (.iload_n 1, 1) := by decide +kernel
theorem dX5_pay_59 : decode cX5_pay 59 = .ok (.invokevirtual 223, 3) := by decide +kernel
theorem dX5_pay_62 : decode cX5_pay 62 = .ok (.ireturn, 1) := by decide +kernel
theorem dX5_mostOwing_0 : decode cX5_mostOwing 0 = .ok (.iconst (-1), 1) := by decide +kernel
theorem dX5_mostOwing_1 : decode cX5_mostOwing 1 = .ok (.istore_n 1, 1) := by decide +kernel
theorem dX5_mostOwing_2 : decode cX5_mostOwing 2 = .ok (.iconst 0, 1) := by decide +kernel
theorem dX5_mostOwing_3 : decode cX5_mostOwing 3 = .ok (.istore_n 2, 1) := by decide +kernel
theorem dX5_mostOwing_4 : decode cX5_mostOwing 4 = .ok (.iconst 0, 1) := by decide +kernel
theorem dX5_mostOwing_5 : decode cX5_mostOwing 5 = .ok (.istore_n 3, 1) := by decide +kernel
theorem dX5_mostOwing_6 : decode cX5_mostOwing 6 = .ok (.iload_n 3, 1) := by decide +kernel
theorem dX5_mostOwing_7 : decode cX5_mostOwing 7 = .ok (.aload_n 0, 1) := by decide +kernel
theorem dX5_mostOwing_8 : decode cX5_mostOwing 8 = .ok (.getfield 84, 3) := by decide +kernel
theorem dX5_mostOwing_11 : decode cX5_mostOwing 11 = .ok (.if_icmp .ge 27, 3) := by decide +kernel
theorem dX5_mostOwing_14 : decode cX5_mostOwing 14 = .ok (.aload_n 0, 1) := by decide +kernel
theorem dX5_mostOwing_15 : decode cX5_mostOwing 15 = .ok (.iload_n 3, 1) := by decide +kernel
theorem dX5_mostOwing_16 : decode cX5_mostOwing 16 = .ok (.invokevirtual 223, 3) := by decide +kernel
theorem dX5_mostOwing_19 : decode cX5_mostOwing 19 = .ok (.istore 4, 2) := by decide +kernel
theorem dX5_mostOwing_21 : decode cX5_mostOwing 21 = .ok (.iload 4, 2) := by decide +kernel
theorem dX5_mostOwing_23 : decode cX5_mostOwing 23 = .ok (.iload_n 2, 1) := by decide +kernel
theorem dX5_mostOwing_24 : decode cX5_mostOwing 24 = .ok (.if_icmp .le 8, 3) := by decide +kernel
theorem dX5_mostOwing_27 : decode cX5_mostOwing 27 = .ok (.iload 4, 2) := by decide +kernel
theorem dX5_mostOwing_29 : decode cX5_mostOwing 29 = .ok (.istore_n 2, 1) := by decide +kernel
theorem dX5_mostOwing_30 : decode cX5_mostOwing 30 = .ok (.iload_n 3, 1) := by decide +kernel
theorem dX5_mostOwing_31 : decode cX5_mostOwing 31 = .ok (.istore_n 1, 1) := by decide +kernel
theorem dX5_mostOwing_32 : decode cX5_mostOwing 32 = .ok (.iinc 3 1, 3) := by decide +kernel
theorem dX5_mostOwing_35 : decode cX5_mostOwing 35 = .ok (.goto (-29), 3) := by decide +kernel
theorem dX5_mostOwing_38 : decode cX5_mostOwing 38 = .ok (.aload_n 0, 1) := by decide +kernel
theorem dX5_mostOwing_39 : decode cX5_mostOwing 39 = .ok (.iload_n 1, 1) := by decide +kernel
theorem dX5_mostOwing_40 : decode cX5_mostOwing 40 = .ok (.iconst (-1), 1) := by decide +kernel
theorem dX5_mostOwing_41 : decode cX5_mostOwing 41 = .ok (.if_icmp .ne 7, 3) := by decide +kernel
theorem dX5_mostOwing_44 : decode cX5_mostOwing 44 = .ok (.iconst 1, 1) := by decide +kernel
theorem dX5_mostOwing_45 : decode cX5_mostOwing 45 = .ok (.goto 4, 3) := by decide +kernel
theorem dX5_mostOwing_48 : decode cX5_mostOwing 48 = .ok (.iconst 0, 1) := by decide +kernel
theorem dX5_mostOwing_49 : decode cX5_mostOwing 49 = .ok (.putfield 80, 3) := by decide +kernel
theorem dX5_mostOwing_52 : decode cX5_mostOwing 52 = .ok (.iload_n 1, 1) := by decide +kernel
theorem dX5_mostOwing_53 : decode cX5_mostOwing 53 = .ok (.iconst (-1), 1) := by decide +kernel
theorem dX5_mostOwing_54 : decode cX5_mostOwing 54 = .ok (.if_icmp .ne 7, 3) := by decide +kernel
theorem dX5_mostOwing_57 : decode cX5_mostOwing 57 = .ok (.iconst 0, 1) := by decide +kernel
theorem dX5_mostOwing_58 : decode cX5_mostOwing 58 = .ok (.goto 4, 3) := by decide +kernel
theorem dX5_mostOwing_61 : decode cX5_mostOwing 61 = .ok (.iload_n 1, 1) := by decide +kernel
theorem dX5_mostOwing_62 : decode cX5_mostOwing 62 = .ok (.ireturn, 1) := by decide +kernel
theorem dX5_collected_0 : decode cX5_collected 0 = .ok (.aload_n 0, 1) := by decide +kernel
theorem dX5_collected_1 : decode cX5_collected 1 = .ok (.iconst 0, 1) := by decide +kernel
theorem dX5_collected_2 : decode cX5_collected 2 = .ok (.putfield 80, 3) := by decide +kernel
theorem dX5_collected_5 : decode cX5_collected 5 = .ok (.aload_n 0, 1) := by decide +kernel
theorem dX5_collected_6 : decode cX5_collected 6 = .ok (.getfield 229, 3) := by decide +kernel
theorem dX5_collected_9 : decode cX5_collected 9 = .ok (.lreturn, 1) := by decide +kernel
theorem dX5_roadShare_0 : decode cX5_roadShare 0 = .ok (.iconst 0, 1) := by decide +kernel
theorem dX5_roadShare_1 : decode cX5_roadShare 1 = .ok (.istore_n 1, 1) := by decide +kernel
theorem dX5_roadShare_2 : decode cX5_roadShare 2 = .ok (.iconst 0, 1) := by decide +kernel
theorem dX5_roadShare_3 : decode cX5_roadShare 3 = .ok (.istore_n 2, 1) := by decide +kernel
theorem dX5_roadShare_4 : decode cX5_roadShare 4 = .ok (.iload_n 2, 1) := by decide +kernel
theorem dX5_roadShare_5 : decode cX5_roadShare 5 = .ok (.aload_n 0, 1) := by decide +kernel
theorem dX5_roadShare_6 : decode cX5_roadShare 6 = .ok (.getfield 91, 3) := by decide +kernel
theorem dX5_roadShare_9 : decode cX5_roadShare 9 = .ok (.if_icmp .ge 29, 3) := by decide +kernel
theorem dX5_roadShare_12 : decode cX5_roadShare 12 = .ok (.iload_n 1, 1) := by decide +kernel
theorem dX5_roadShare_13 : decode cX5_roadShare 13 = .ok (.aload_n 0, 1) := by decide +kernel
theorem dX5_roadShare_14 : decode cX5_roadShare 14 = .ok (.iload_n 2, 1) := by decide +kernel
theorem dX5_roadShare_15 : decode cX5_roadShare 15 = .ok (.aload_n 0, 1) := by decide +kernel
theorem dX5_roadShare_16 : decode cX5_roadShare 16 = .ok (.getfield 97, 3) := by decide +kernel
theorem dX5_roadShare_19 : decode cX5_roadShare 19 = .ok (.invokevirtual 150, 3) := by decide +kernel
theorem dX5_roadShare_22 : decode cX5_roadShare 22 = .ok (.ifCond .eq 7, 3) := by decide +kernel
theorem dX5_roadShare_25 : decode cX5_roadShare 25 = .ok (.iconst 1, 1) := by decide +kernel
theorem dX5_roadShare_26 : decode cX5_roadShare 26 = .ok (.goto 4, 3) := by decide +kernel
theorem dX5_roadShare_29 : decode cX5_roadShare 29 = .ok (.iconst 0, 1) := by decide +kernel
theorem dX5_roadShare_30 : decode cX5_roadShare 30 = .ok (.iadd, 1) := by decide +kernel
theorem dX5_roadShare_31 : decode cX5_roadShare 31 = .ok (.istore_n 1, 1) := by decide +kernel
theorem dX5_roadShare_32 : decode cX5_roadShare 32 = .ok (.iinc 2 1, 3) := by decide +kernel
theorem dX5_roadShare_35 : decode cX5_roadShare 35 = .ok (.goto (-31), 3) := by decide +kernel
theorem dX5_roadShare_38 : decode cX5_roadShare 38 = .ok (.aload_n 0, 1) := by decide +kernel
theorem dX5_roadShare_39 : decode cX5_roadShare 39 = .ok (.aload_n 0, 1) := by decide +kernel
theorem dX5_roadShare_40 : decode cX5_roadShare 40 = .ok (.getfield 91, 3) := by decide +kernel
theorem dX5_roadShare_43 : decode cX5_roadShare 43 = .ok (.ifCond .ne 7, 3) := by decide +kernel
theorem dX5_roadShare_46 : decode cX5_roadShare 46 = .ok (.iconst 1, 1) := by decide +kernel
theorem dX5_roadShare_47 : decode cX5_roadShare 47 = .ok (.goto 4, 3) := by decide +kernel
theorem dX5_roadShare_50 : decode cX5_roadShare 50 = .ok (.iconst 0, 1) := by decide +kernel
theorem dX5_roadShare_51 : decode cX5_roadShare 51 = .ok (.putfield 80, 3) := by decide +kernel
theorem dX5_roadShare_54 : decode cX5_roadShare 54 = .ok (.aload_n 0, 1) := by decide +kernel
theorem dX5_roadShare_55 : decode cX5_roadShare 55 = .ok (.getfield 91, 3) := by decide +kernel
theorem dX5_roadShare_58 : decode cX5_roadShare 58 = .ok (.ifCond .ne 7, 3) := by decide +kernel
theorem dX5_roadShare_61 : decode cX5_roadShare 61 = .ok (.fconst 0, 1) := by decide +kernel
theorem dX5_roadShare_62 : decode cX5_roadShare 62 = .ok (.goto 11, 3) := by decide +kernel
theorem dX5_roadShare_65 : decode cX5_roadShare 65 = .ok (.iload_n 1, 1) := by decide +kernel
theorem dX5_roadShare_66 : decode cX5_roadShare 66 = .ok (.i2f, 1) := by decide +kernel
theorem dX5_roadShare_67 : decode cX5_roadShare 67 = .ok (.aload_n 0, 1) := by decide +kernel
theorem dX5_roadShare_68 : decode cX5_roadShare 68 = .ok (.getfield 91, 3) := by decide +kernel
theorem dX5_roadShare_71 : decode cX5_roadShare 71 = .ok (.i2f, 1) := by decide +kernel
theorem dX5_roadShare_72 : decode cX5_roadShare 72 = .ok (.fdiv, 1) := by decide +kernel
theorem dX5_roadShare_73 : decode cX5_roadShare 73 = .ok (.freturn, 1) := by decide +kernel
theorem dX5_meanTransfers_0 : decode cX5_meanTransfers 0 = .ok (.aload_n 0, 1) := by decide +kernel
theorem dX5_meanTransfers_1 : decode cX5_meanTransfers 1 = .ok (.aload_n 0, 1) := by decide +kernel
theorem dX5_meanTransfers_2 : decode cX5_meanTransfers 2 = .ok (.getfield 91, 3) := by decide +kernel
theorem dX5_meanTransfers_5 : decode cX5_meanTransfers 5 = .ok (.ifCond .ne 7, 3) := by decide +kernel
theorem dX5_meanTransfers_8 : decode cX5_meanTransfers 8 = .ok (.iconst 1, 1) := by decide +kernel
theorem dX5_meanTransfers_9 : decode cX5_meanTransfers 9 = .ok (.goto 4, 3) := by decide +kernel
theorem dX5_meanTransfers_12 : decode cX5_meanTransfers 12 = .ok (.iconst 0, 1) := by decide +kernel
theorem dX5_meanTransfers_13 : decode cX5_meanTransfers 13 = .ok (.putfield 80, 3) := by decide +kernel
theorem dX5_meanTransfers_16 : decode cX5_meanTransfers 16 = .ok (.aload_n 0, 1) := by decide +kernel
theorem dX5_meanTransfers_17 : decode cX5_meanTransfers 17 = .ok (.getfield 91, 3) := by decide +kernel
theorem dX5_meanTransfers_20 : decode cX5_meanTransfers 20 = .ok (.ifCond .ne 7, 3) := by decide +kernel
theorem dX5_meanTransfers_23 : decode cX5_meanTransfers 23 = .ok (.dconst 0, 1) := by decide +kernel
theorem dX5_meanTransfers_24 : decode cX5_meanTransfers 24 = .ok (.goto 14, 3) := by decide +kernel
theorem dX5_meanTransfers_27 : decode cX5_meanTransfers 27 = .ok (.aload_n 0, 1) := by decide +kernel
theorem dX5_meanTransfers_28 : decode cX5_meanTransfers 28 = .ok (.getfield 110, 3) := by decide +kernel
theorem dX5_meanTransfers_31 : decode cX5_meanTransfers 31 = .ok (.i2d, 1) := by decide +kernel
theorem dX5_meanTransfers_32 : decode cX5_meanTransfers 32 = .ok (.aload_n 0, 1) := by decide +kernel
theorem dX5_meanTransfers_33 : decode cX5_meanTransfers 33 = .ok (.getfield 91, 3) := by decide +kernel
theorem dX5_meanTransfers_36 : decode cX5_meanTransfers 36 = .ok (.i2d, 1) := by decide +kernel
theorem dX5_meanTransfers_37 : decode cX5_meanTransfers 37 = .ok (.ddiv, 1) := by decide +kernel
theorem dX5_meanTransfers_38 : decode cX5_meanTransfers 38 = .ok (.dreturn, 1) := by decide +kernel
theorem dX5_isSound_0 : decode cX5_isSound 0 = .ok (.aload_n 0, 1) := by decide +kernel
theorem dX5_isSound_1 : decode cX5_isSound 1 = .ok (.iconst 0, 1) := by decide +kernel
theorem dX5_isSound_2 : decode cX5_isSound 2 = .ok (.putfield 80, 3) := by decide +kernel
theorem dX5_isSound_5 : decode cX5_isSound 5 = .ok (.iconst 1, 1) := by decide +kernel
theorem dX5_isSound_6 : decode cX5_isSound 6 = .ok (.ireturn, 1) := by decide +kernel
theorem dJx00060_init_a7421_0 : decode cJx00060_init_a7421 0 = .ok (.aload_n 0, 1) := by decide +kernel
theorem dJx00060_init_a7421_1 : decode cJx00060_init_a7421 1 = .ok (.aload_n 1, 1) := by decide +kernel
theorem dJx00060_init_a7421_2 : decode cJx00060_init_a7421 2 = .ok (.invokespecial 7, 3) := by decide +kernel
theorem dJx00060_init_a7421_5 : decode cJx00060_init_a7421 5 = .ok (.return_, 1) := by decide +kernel
theorem dJ9_abs_0f7a4_0 : decode cJ9_abs_0f7a4 0 = .ok (.iload_n 0, 1) := by decide +kernel
theorem dJ9_abs_0f7a4_1 : decode cJ9_abs_0f7a4 1 = .ok (.ifCond .ge 8, 3) := by decide +kernel
theorem dJ9_abs_0f7a4_4 : decode cJ9_abs_0f7a4 4 = .ok (.iload_n 0, 1) := by decide +kernel
theorem dJ9_abs_0f7a4_5 : decode cJ9_abs_0f7a4 5 = .ok (.ineg, 1) := by decide +kernel
theorem dJ9_abs_0f7a4_6 : decode cJ9_abs_0f7a4 6 = .ok (.goto 4, 3) := by decide +kernel
theorem dJ9_abs_0f7a4_9 : decode cJ9_abs_0f7a4 9 = .ok (.iload_n 0, 1) := by decide +kernel
theorem dJ9_abs_0f7a4_10 : decode cJ9_abs_0f7a4 10 = .ok (.ireturn, 1) := by decide +kernel
theorem dJ9_max_7cf53_0 : decode cJ9_max_7cf53 0 = .ok (.iload_n 0, 1) := by decide +kernel
theorem dJ9_max_7cf53_1 : decode cJ9_max_7cf53 1 = .ok (.iload_n 1, 1) := by decide +kernel
theorem dJ9_max_7cf53_2 : decode cJ9_max_7cf53 2 = .ok (.if_icmp .lt 7, 3) := by decide +kernel
theorem dJ9_max_7cf53_5 : decode cJ9_max_7cf53 5 = .ok (.iload_n 0, 1) := by decide +kernel
theorem dJ9_max_7cf53_6 : decode cJ9_max_7cf53 6 = .ok (.goto 4, 3) := by decide +kernel
theorem dJ9_max_7cf53_9 : decode cJ9_max_7cf53 9 = .ok (.iload_n 1, 1) := by decide +kernel
theorem dJ9_max_7cf53_10 : decode cJ9_max_7cf53 10 = .ok (.ireturn, 1) := by decide +kernel
theorem dJ9_min_7cf53_0 : decode cJ9_min_7cf53 0 = .ok (.iload_n 0, 1) := by decide +kernel
theorem dJ9_min_7cf53_1 : decode cJ9_min_7cf53 1 = .ok (.iload_n 1, 1) := by decide +kernel
theorem dJ9_min_7cf53_2 : decode cJ9_min_7cf53 2 = .ok (.if_icmp .gt 7, 3) := by decide +kernel
theorem dJ9_min_7cf53_5 : decode cJ9_min_7cf53 5 = .ok (.iload_n 0, 1) := by decide +kernel
theorem dJ9_min_7cf53_6 : decode cJ9_min_7cf53 6 = .ok (.goto 4, 3) := by decide +kernel
theorem dJ9_min_7cf53_9 : decode cJ9_min_7cf53 9 = .ok (.iload_n 1, 1) := by decide +kernel
theorem dJ9_min_7cf53_10 : decode cJ9_min_7cf53 10 = .ok (.ireturn, 1) := by decide +kernel
theorem dJ7_copyOf_59c91_0 : decode cJ7_copyOf_59c91 0 = .ok (.iload_n 1, 1) := by decide +kernel
theorem dJ7_copyOf_59c91_1 : decode cJ7_copyOf_59c91 1 = .ok (.aload_n 0, 1) := by decide +kernel
theorem dJ7_copyOf_59c91_2 : decode cJ7_copyOf_59c91 2 = .ok (.arraylength, 1) := by decide +kernel
theorem dJ7_copyOf_59c91_3 : decode cJ7_copyOf_59c91 3 = .ok (.if_icmp .ne 11, 3) := by decide +kernel
theorem dJ7_copyOf_59c91_6 : decode cJ7_copyOf_59c91 6 = .ok (.aload_n 0, 1) := by decide +kernel
theorem dJ7_copyOf_59c91_7 : decode cJ7_copyOf_59c91 7 = .ok (.invokevirtual 316, 3) := by decide +kernel
theorem dJ7_copyOf_59c91_10 : decode cJ7_copyOf_59c91 10 = .ok (.checkcast 317, 3) := by decide +kernel
theorem dJ7_copyOf_59c91_13 : decode cJ7_copyOf_59c91 13 = .ok (.areturn, 1) := by decide +kernel
theorem dJ7_copyOf_59c91_14 : decode cJ7_copyOf_59c91 14 = .ok (.iload_n 1, 1) := by decide +kernel
theorem dJ7_copyOf_59c91_15 : decode cJ7_copyOf_59c91 15 = .ok (.newarray .int, 2) := by decide +kernel
theorem dJ7_copyOf_59c91_17 : decode cJ7_copyOf_59c91 17 = .ok (.astore_n 2, 1) := by decide +kernel
theorem dJ7_copyOf_59c91_18 : decode cJ7_copyOf_59c91 18 = .ok (.aload_n 0, 1) := by decide +kernel
theorem dJ7_copyOf_59c91_19 : decode cJ7_copyOf_59c91 19 = .ok (.iconst 0, 1) := by decide +kernel
theorem dJ7_copyOf_59c91_20 : decode cJ7_copyOf_59c91 20 = .ok (.aload_n 2, 1) := by decide +kernel
theorem dJ7_copyOf_59c91_21 : decode cJ7_copyOf_59c91 21 = .ok (.iconst 0, 1) := by decide +kernel
theorem dJ7_copyOf_59c91_22 : decode cJ7_copyOf_59c91 22 = .ok (.aload_n 0, 1) := by decide +kernel
theorem dJ7_copyOf_59c91_23 : decode cJ7_copyOf_59c91 23 = .ok (.arraylength, 1) := by decide +kernel
theorem dJ7_copyOf_59c91_24 : decode cJ7_copyOf_59c91 24 = .ok (.iload_n 1, 1) := by decide +kernel
theorem dJ7_copyOf_59c91_25 : decode cJ7_copyOf_59c91 25 = .ok (.invokestatic 304, 3) := by decide +kernel
theorem dJ7_copyOf_59c91_28 : decode cJ7_copyOf_59c91 28 = .ok (.invokestatic 150, 3) := by decide +kernel
theorem dJ7_copyOf_59c91_31 : decode cJ7_copyOf_59c91 31 = .ok (.aload_n 2, 1) := by decide +kernel
theorem dJ7_copyOf_59c91_32 : decode cJ7_copyOf_59c91 32 = .ok (.areturn, 1) := by decide +kernel
end
section
/-! words, the memory, the judgement J: a frame of one of the claim's own methods, over a memory of pure functions -/
def AW : List Cond := lw_tbl.filter goodWord
theorem AW_in {w : Cond} (h : w ∈ lw_tbl) (g : goodWord w = true) : w ∈ AW := List.mem_filter.mpr ⟨h, g⟩
theorem AW_tbl {w : Cond} (h : w ∈ AW) : w ∈ lw_tbl := (List.mem_filter.mp h).1
theorem AW_good {w : Cond} (h : w ∈ AW) : (w.onTables && w.keeps) = true ∨ ∃ ty, w = .arrayClass ty := good_of_word (List.mem_filter.mp h).2
abbrev wsOf (y : MethodName) (cc : ByteArray) (maxL : Nat) (ret : Option FieldType) : List Cond := .code y cc maxL ret :: AW
theorem AW_goodIn {ws : List Cond} (h : ∀ w ∈ ws, w ∈ AW) : GoodIn AW ws := fun w hw => ⟨h w hw, AW_good (h w hw)⟩
/-- the memory: tag (kind, place) and length of a cell; its ints, references (0: null), longs, doubles -/
abbrev Mm : Type := (Nat → Nat × Nat) × (Nat → Nat) × (Nat → Nat → Int32) × (Nat → Nat → Nat) × (Nat → Nat → Int64) × (Nat → Nat → UInt64)
def mT (M : Mm) : Nat → Nat × Nat := M.1
def mL (M : Mm) : Nat → Nat := M.2.1
def mI (M : Mm) : Nat → Nat → Int32 := M.2.2.1
def mR (M : Mm) : Nat → Nat → Nat := M.2.2.2.1
def mJ (M : Mm) : Nat → Nat → Int64 := M.2.2.2.2.1
def mD (M : Mm) : Nat → Nat → UInt64 := M.2.2.2.2.2
def up2 {α : Type} (f : Nat → Nat → α) (a k : Nat) (v : α) : Nat → Nat → α := fun b j => if b = a then (if j = k then v else f b j) else f b j
theorem up2_same {α : Type} (f : Nat → Nat → α) (a k : Nat) (v : α) : up2 f a k v a k = v := by simp [up2]
theorem up2_k {α : Type} (f : Nat → Nat → α) (a : Nat) {k j : Nat} (v : α) (h : j ≠ k) : up2 f a k v a j = f a j := by simp [up2, h]
theorem up2_b {α : Type} (f : Nat → Nat → α) {a b : Nat} (k j : Nat) (v : α) (h : b ≠ a) : up2 f a k v b j = f b j := by simp [up2, h]
theorem up2_row {α : Type} (f : Nat → Nat → α) {a b : Nat} (k : Nat) (v : α) (h : b ≠ a) : up2 f a k v b = f b := by funext j; simp [up2, h]
def pI (M : Mm) (a k : Nat) (v : Int32) : Mm := (mT M, mL M, up2 (mI M) a k v, mR M, mJ M, mD M)
def pR (M : Mm) (a k : Nat) (v : Nat) : Mm := (mT M, mL M, mI M, up2 (mR M) a k v, mJ M, mD M)
def pJ (M : Mm) (a k : Nat) (v : Int64) : Mm := (mT M, mL M, mI M, mR M, up2 (mJ M) a k v, mD M)
def pD (M : Mm) (a k : Nat) (v : UInt64) : Mm := (mT M, mL M, mI M, mR M, mJ M, up2 (mD M) a k v)
def nwM (M : Mm) (a : Nat) (t : Nat × Nat) (n : Nat) : Mm := (va_up (mT M) a t, va_up (mL M) a n, fun b j => if b = a then 0 else mI M b j, fun b j => if b = a then 0 else mR M b j, fun b j => if b = a then 0 else mJ M b j, fun b j => if b = a then 0 else mD M b j)
def ro (n : Nat) : Option Nat := if n = 0 then none else some n
def rv (n : Nat) : Value := va_rf (ro n)
theorem rv_0 : rv 0 = .null := rfl
theorem rv_pos {n : Nat} (h : n ≠ 0) : rv n = .ref n := by simp [rv, ro, h, va_rf]
theorem rv_cat (n : Nat) : (rv n).category = 1 := by
  by_cases h : n = 0
  · subst h; rfl
  · rw [rv_pos h]; rfl
theorem rv_or (n : Nat) : rv n = .null ∨ ∃ a, rv n = .ref a := va_rf_or _
abbrev clW : List vw_C := [(RX0, TX0, 7), (RX1, TX1, 4), (RX2, TX2, 3), (RX3, TX3, 8), (RX4, TX4, 12), (RX5, TX5, 33)]
/-- the world G: the tables' numbers; the numbers of the array classes by kind; the heap as it was at the law's start -/
abbrev Gt : Type := va_G × (Nat → ClassId) × Heap
def tysW (aC : Nat → ClassId) : List (ClassId × FieldType) := [(aC 7, .int), (aC 8, .boolean), (aC 9, .object RX3), (aC 10, .object RX1), (aC 11, .object RX0), (aC 12, .long), (aC 13, .double)]
/-- what a cell holds, by its kind -/
def mE (aC : Nat → ClassId) (M : Mm) (a : Nat) : va_E := match (mT M a).1 with
  | 1 => .inr (0, [.int (mI M a 0), .int (mI M a 1), .int (mI M a 2), .int (mI M a 3), .int (mI M a 4), .int (mI M a 5), .int (mI M a 6)])
  | 2 => .inr (1, [.int (mI M a 0), rv (mR M a 1), .int (mI M a 2), .int (mI M a 3)])
  | 3 => .inr (2, [rv (mR M a 0), rv (mR M a 1), .int (mI M a 2)])
  | 4 => .inr (3, [.int (mI M a 0), .int (mI M a 1), rv (mR M a 2), rv (mR M a 3), rv (mR M a 4), rv (mR M a 5), .int (mI M a 6), .int (mI M a 7)])
  | 5 => .inr (4, [rv (mR M a 0), rv (mR M a 1), rv (mR M a 2), rv (mR M a 3), rv (mR M a 4), rv (mR M a 5), .int (mI M a 6), .int (mI M a 7), .int (mI M a 8), .int (mI M a 9), .int (mI M a 10), .long (mJ M a 11)])
  | 6 => .inr (5, [.int (mI M a 0), .int (mI M a 1), .int (mI M a 2), .int (mI M a 3), .int (mI M a 4), .int (mI M a 5), .int (mI M a 6), .int (mI M a 7), .int (mI M a 8), .long (mJ M a 9), rv (mR M a 10), rv (mR M a 11), rv (mR M a 12), rv (mR M a 13), rv (mR M a 14), rv (mR M a 15), rv (mR M a 16), rv (mR M a 17), rv (mR M a 18), rv (mR M a 19), rv (mR M a 20), rv (mR M a 21), rv (mR M a 22), rv (mR M a 23), rv (mR M a 24), rv (mR M a 25), rv (mR M a 26), rv (mR M a 27), rv (mR M a 28), rv (mR M a 29), rv (mR M a 30), rv (mR M a 31), rv (mR M a 32)])
  | 7 => .inl (aC 7, mL M a, .inl (mI M a))
  | 8 => .inl (aC 8, mL M a, .inl (mI M a))
  | 9 => .inl (aC 9, mL M a, .inr (.inr (.inr (.inr (fun j => ro (mR M a j))))))
  | 10 => .inl (aC 10, mL M a, .inr (.inr (.inr (.inr (fun j => ro (mR M a j))))))
  | 11 => .inl (aC 11, mL M a, .inr (.inr (.inr (.inr (fun j => ro (mR M a j))))))
  | 12 => .inl (aC 12, mL M a, .inr (.inl (mJ M a)))
  | _ => .inl (aC 13, mL M a, .inr (.inr (.inr (.inl (mD M a)))))
def gA (G : Gt) : Nat → Prop := fun q => G.2.2.size ≤ q
def Rep (G : Gt) (M : Mm) (H : Heap) : Prop := 0 < G.2.2.size ∧ ∃ L : List Nat, (∀ a, a ∈ L ↔ (mT M a).1 ≠ 0) ∧ va_P G.1 clW (va_pl L (mE G.2.1 M)) H ∧ va_D (gA G) (va_pl L (mE G.2.1 M))
def Low (G : Gt) (H : Heap) : Prop := G.2.2.size ≤ H.size ∧ ∀ q, q < G.2.2.size → H[q]? = G.2.2[q]?
theorem Rep.lt {G : Gt} {M : Mm} {H : Heap} (h : Rep G M H) {a : Nat} (ha : (mT M a).1 ≠ 0) : gA G a ∧ a < H.size := by
  obtain ⟨-, L, h1, h2, h3⟩ := h
  obtain ⟨k, hk⟩ := va_pl_get (X := []) (f := mE G.2.1 M) ((h1 a).mpr ha)
  exact ⟨h3.2 k _ hk, (h2 k _ hk).lt⟩
theorem Rep.ne {G : Gt} {M : Mm} {H : Heap} (h : Rep G M H) {a : Nat} (ha : (mT M a).1 ≠ 0) : a ≠ 0 := by
  have h1 := h.1
  have h2 := (h.lt ha).1
  unfold gA at h2
  omega
theorem mE_tag {aC : Nat → ClassId} {M M' : Mm} {b : Nat} (h : (mT M b).1 = (mT M' b).1) (hL : mL M b = mL M' b) (hI : mI M b = mI M' b) (hR : mR M b = mR M' b) (hJ : mJ M b = mJ M' b) (hD : mD M b = mD M' b) : mE aC M b = mE aC M' b := by
  simp only [mE, h, hL, hI, hR, hJ, hD]
/-- one cell has changed -/
theorem Rep.set {G : Gt} {M M' : Mm} {L : List Nat} {a k : Nat} {e : va_E} {H1 : Heap} (h0 : 0 < G.2.2.size) (hL : ∀ b, b ∈ L ↔ (mT M b).1 ≠ 0) (hD : va_D (gA G) (va_pl L (mE G.2.1 M))) (ha : (mT M a).1 ≠ 0) (hk : (va_pl L (mE G.2.1 M))[k]? = some (a, mE G.2.1 M a))
    (hT : ∀ b, (mT M' b).1 = (mT M b).1) (he : mE G.2.1 M' a = e) (hb : ∀ b, b ≠ a → mE G.2.1 M' b = mE G.2.1 M b) (hP1 : va_P G.1 clW ((va_pl L (mE G.2.1 M)).set k (a, e)) H1) (hD1 : va_D (gA G) ((va_pl L (mE G.2.1 M)).set k (a, e))) : Rep G M' H1 := by
  have e1 : (va_pl L (mE G.2.1 M)).set k (a, e) = va_pl L (mE G.2.1 M') := by
    have h1 := va_pl_set (X := []) (A := gA G) (e := e) hD ((hL a).mpr ha) hk
    simp only [List.nil_append] at h1
    rw [h1]
    refine va_pl_congr fun b => ?_
    by_cases hba : b = a
    · subst hba; rw [va_up_self, he]
    · rw [va_up_ne _ _ hba, hb b hba]
  rw [e1] at hP1 hD1
  exact ⟨h0, L, fun b => by rw [hT b]; exact hL b, hP1, hD1⟩
/-- one cell has come -/
theorem Rep.push {G : Gt} {M M' : Mm} {L : List Nat} {a : Nat} {e : va_E} {H1 : Heap} (h0 : 0 < G.2.2.size) (hL : ∀ b, b ∈ L ↔ (mT M b).1 ≠ 0) (ha : a ∉ L)
    (hT : (mT M' a).1 ≠ 0) (hTb : ∀ b, b ≠ a → (mT M' b).1 = (mT M b).1) (he : mE G.2.1 M' a = e) (hb : ∀ b, b ≠ a → mE G.2.1 M' b = mE G.2.1 M b) (hP1 : va_P G.1 clW (va_pl L (mE G.2.1 M) ++ [(a, e)]) H1) (hD1 : va_D (gA G) (va_pl L (mE G.2.1 M) ++ [(a, e)])) : Rep G M' H1 := by
  have e1 : va_pl L (mE G.2.1 M) ++ [(a, e)] = va_pl (L ++ [a]) (mE G.2.1 M') := by
    rw [va_pl_push ha]
    refine va_pl_congr fun b => ?_
    by_cases hba : b = a
    · subst hba; rw [va_up_self, he]
    · rw [va_up_ne _ _ hba, hb b hba]
  rw [e1] at hP1 hD1
  refine ⟨h0, L ++ [a], fun b => ?_, hP1, hD1⟩
  rw [List.mem_append, List.mem_singleton]
  by_cases hba : b = a
  · subst hba; simp [hT]
  · rw [hTb b hba, ← hL b]; simp [hba]
/-! the law's standing facts: what the tables say, what throws need -/
abbrev exN : List String := ["java/lang/IllegalStateException", "java/lang/IllegalArgumentException", "java/lang/IndexOutOfBoundsException", "java/util/NoSuchElementException", "java/lang/UnsupportedOperationException", "java/lang/ArithmeticException"]
def strT : List (String × Nat × String) := [("PlateRegister", 43, "there are 12 keepers"), ("PlateRegister", 53, "no such number of days can pass"), ("PlateRegister", 315, "there is no such keeper"), ("PlateRegister", 328, "there is no such kind"), ("PlateRegister", 330, "there are 15 vehicles"), ("PlateRegister", 332, "there are 40 plates"), ("PlateRegister", 317, "there is no such vehicle"), ("PlateRegister", 91, "the vehicle has been admitted"), ("PlateRegister", 97, "the vehicle is scrapped"), ("PlateRegister", 113, "the vehicle is scrapped or has no plate"), ("PlateRegister", 326, "there is no such day yet"), ("PlateRegister", 339, "the vehicle is blocked"), ("PlateRegister", 152, "the seller and the buyer are the same"), ("PlateRegister", 337, "there are 120 notices"), ("PlateRegister", 324, "there is no such notice"), ("PlateRegister", 168, "the notice is not open"), ("PlateRegister", 173, "the notice was not used"), ("PlateRegister", 350, "there is none"), ("PlateRegister", 196, "there is no such transfer"), ("PlateRegister", 206, "there is no such lender or amount"), ("PlateRegister", 343, "the lender has no lien on this vehicle"), ("PlateRegister", 223, "the amount is out of range"), ("PlateRegister", 233, "the vehicle has no plate"), ("PlateRegister", 322, "there is no such plate"), ("PlateRegister", 258, "the plate is not kept for this keeper"), ("PlateRegister", 341, "the vehicle is blocked or has no plate"), ("PlateRegister", 263, "there are not two vehicles of one keeper"), ("PlateRegister", 268, "the plate is not kept"), ("PlateRegister", 352, "the plate is on no vehicle"), ("PlateRegister", 283, "there is no such quarter yet"), ("PlateRegister", 347, "there are no vehicles")]
def Gok (G : Gt) (U : State) : Prop :=
  va_K G.1 clW (tysW G.2.1) U ∧ vx_Zq Bundle.tN "UNASSIGNED_STACK" Bundle.steD (gA G) U G.2.2 ∧ vx_Zq Bundle.tN "SUPPRESSED_SENTINEL" Bundle.listD (gA G) U G.2.2 ∧ (∀ E ∈ exN, va_Nw (.castable E E) U) ∧ (∀ q ∈ strT, ∃ sa, vk_R q.1 q.2.1 q.2.2 sa U) ∧ va_AO RX3 U ∧ va_AO RX1 U ∧ va_AO RX0 U
theorem Gok.warm {G : Gt} {s U : State} (h : Gok G s) (hW : s.WarmedH U.vm) : Gok G U := by
  obtain ⟨h1, h2, h3, h4, h5, h6, h7, h8⟩ := h
  exact ⟨h1.moved hW.alike, h2.moved hW.alike, h3.moved hW.alike, fun E hE => va_Nw.warmC hW (h4 E hE), fun q hq => let ⟨sa, hs⟩ := h5 q hq; ⟨sa, vk_R.warm hW hs⟩, h6.moved hW.alike, h7.moved hW.alike, h8.moved hW.alike⟩
/-! locals -/
def lset : List (Option Value) → Nat → Value → List (Option Value)
  | [], 0, v => [some v]
  | [], i + 1, v => none :: lset [] i v
  | _ :: l, 0, v => some v :: l
  | x :: l, i + 1, v => x :: lset l i v
theorem lset_get : ∀ (ls : List (Option Value)) (i : Nat) (v : Value) (j : Nat) (w : Value), (lset ls i v)[j]? = some (some w) → (j = i ∧ w = v) ∨ (j ≠ i ∧ ls[j]? = some (some w))
  | [], 0, v, j, w, h => by
    cases j with
    | zero => simp [lset] at h; exact Or.inl ⟨rfl, h.symm⟩
    | succ j => simp [lset] at h
  | [], i + 1, v, j, w, h => by
    cases j with
    | zero => simp [lset] at h
    | succ j =>
      simp only [lset, List.getElem?_cons_succ] at h
      rcases lset_get [] i v j w h with ⟨h1, h2⟩ | ⟨h1, h2⟩
      · exact Or.inl ⟨by omega, h2⟩
      · simp at h2
  | x :: l, 0, v, j, w, h => by
    cases j with
    | zero => simp [lset] at h; exact Or.inl ⟨rfl, h.symm⟩
    | succ j => simp only [lset, List.getElem?_cons_succ] at h; exact Or.inr ⟨by omega, by simpa using h⟩
  | x :: l, i + 1, v, j, w, h => by
    cases j with
    | zero => simp only [lset, List.getElem?_cons_zero] at h; exact Or.inr ⟨by omega, by simpa using h⟩
    | succ j =>
      simp only [lset, List.getElem?_cons_succ] at h
      rcases lset_get l i v j w h with ⟨h1, h2⟩ | ⟨h1, h2⟩
      · exact Or.inl ⟨by omega, h2⟩
      · exact Or.inr ⟨by omega, by simpa using h2⟩
def lsP : Nat → List (Option Value) → List (Nat × Value)
  | _, [] => []
  | i, none :: l => lsP (i + 1) l
  | i, some v :: l => (i, v) :: lsP (i + 1) l
theorem lsP_mem : ∀ (l : List (Option Value)) (i : Nat) (q : Nat × Value), q ∈ lsP i l ↔ i ≤ q.1 ∧ l[q.1 - i]? = some (some q.2)
  | [], i, q => by simp [lsP]
  | none :: l, i, q => by
    rw [lsP, lsP_mem l (i + 1) q]
    constructor
    · rintro ⟨h1, h2⟩
      refine ⟨by omega, ?_⟩
      rw [show q.1 - i = (q.1 - (i + 1)) + 1 by omega, List.getElem?_cons_succ]; exact h2
    · rintro ⟨h1, h2⟩
      by_cases h : q.1 = i
      · rw [show q.1 - i = 0 by omega] at h2; simp at h2
      · rw [show q.1 - i = (q.1 - (i + 1)) + 1 by omega, List.getElem?_cons_succ] at h2
        exact ⟨by omega, h2⟩
  | some v :: l, i, q => by
    rw [lsP, List.mem_cons, lsP_mem l (i + 1) q]
    constructor
    · rintro (rfl | ⟨h1, h2⟩)
      · simp
      · refine ⟨by omega, ?_⟩
        rw [show q.1 - i = (q.1 - (i + 1)) + 1 by omega, List.getElem?_cons_succ]; exact h2
    · rintro ⟨h1, h2⟩
      by_cases h : q.1 = i
      · rw [show q.1 - i = 0 by omega] at h2
        simp at h2
        exact Or.inl (Prod.ext h h2.symm)
      · rw [show q.1 - i = (q.1 - (i + 1)) + 1 by omega, List.getElem?_cons_succ] at h2
        exact Or.inr ⟨by omega, h2⟩
def lsOk (nL : Nat) (lsA : Array Slot) (ls : List (Option Value)) : Prop := lv_has lsA nL (lsP 0 ls) ∧ ∀ (i : Nat) (v : Value), ls[i]? = some (some v) → v.category = 1
theorem lsOk.at {nL : Nat} {lsA : Array Slot} {ls : List (Option Value)} (h : lsOk nL lsA ls) {i : Nat} {v : Value} (hi : ls[i]? = some (some v)) : lsA[i]? = some (.val v) := h.1.2.2 (i, v) ((lsP_mem ls 0 (i, v)).mpr ⟨Nat.zero_le _, by simpa using hi⟩)
theorem lsOk.store {nL : Nat} {lsA : Array Slot} {ls : List (Option Value)} (h : lsOk nL lsA ls) {i : Nat} {v : Value} (hv : v.category = 1) {ls' : Array Slot} (h' : lv_has ls' nL ((i, v) :: (lsP 0 ls).filter (fun q => !(q.1 == i) && !(q.1 + 1 == i && q.2.category == 2)))) : lsOk nL ls' (lset ls i v) := by
  refine ⟨⟨h'.1, h'.2.1, fun q hq => ?_⟩, fun j w hj => ?_⟩
  · obtain ⟨-, h2⟩ := (lsP_mem _ 0 q).mp hq
    rcases lset_get ls i v _ _ h2 with ⟨h3, h4⟩ | ⟨h3, h4⟩
    · refine h'.2.2 q (List.mem_cons.mpr (Or.inl ?_))
      exact Prod.ext (by simpa using h3) h4
    · refine h'.2.2 q (List.mem_cons.mpr (Or.inr (List.mem_filter.mpr ⟨(lsP_mem ls 0 q).mpr ⟨Nat.zero_le _, h4⟩, ?_⟩)))
      have hc := h.2 _ _ h4
      simp only [Nat.sub_zero] at h3
      simp [h3, hc]
  · rcases lset_get ls i v j w hj with ⟨-, h4⟩ | ⟨-, h4⟩
    · rw [h4]; exact hv
    · exact h.2 j w h4
/-- fewer locals are known -/
def lsSub : List (Option Value) → List (Option Value) → Prop
  | [], _ => True
  | none :: l', [] => lsSub l' []
  | none :: l', _ :: l => lsSub l' l
  | some _ :: _, [] => False
  | some v :: l', x :: l => x = some v ∧ lsSub l' l
theorem lsSub_get : ∀ (l' l : List (Option Value)), lsSub l' l → ∀ (i : Nat) (v : Value), l'[i]? = some (some v) → l[i]? = some (some v)
  | [], _, _, i, v, h => by simp at h
  | none :: l', [], hs, i, v, h => by
    cases i with
    | zero => simp at h
    | succ i => simp only [List.getElem?_cons_succ] at h; have := lsSub_get l' [] hs i v h; simp at this
  | none :: l', x :: l, hs, i, v, h => by
    cases i with
    | zero => simp at h
    | succ i => simp only [List.getElem?_cons_succ] at h ⊢; exact lsSub_get l' l hs i v h
  | some w :: l', [], hs, i, v, h => absurd hs (by simp [lsSub])
  | some w :: l', x :: l, hs, i, v, h => by
    cases i with
    | zero => simp only [List.getElem?_cons_zero] at h ⊢; rw [hs.1]; exact h
    | succ i => simp only [List.getElem?_cons_succ] at h ⊢; exact lsSub_get l' l hs.2 i v h
theorem lsOk.sub {nL : Nat} {lsA : Array Slot} {ls ls' : List (Option Value)} (h : lsOk nL lsA ls) (hs : lsSub ls' ls) : lsOk nL lsA ls' :=
  ⟨⟨h.1.1, h.1.2.1, fun q hq => by
    obtain ⟨-, h2⟩ := (lsP_mem _ 0 q).mp hq
    exact h.1.2.2 q ((lsP_mem ls 0 q).mpr ⟨Nat.zero_le _, lsSub_get _ _ hs _ _ h2⟩)⟩, fun i v hi => h.2 i v (lsSub_get _ _ hs _ _ hi)⟩
/-! the judgement -/
abbrev Γt : Type := Program × Launch × Env × Room × State × MethodId × Array Value × List Frame × Method × Code × (Option Value → Mm → Prop) × (String → Mm → Prop) × Nat × Nat × Nat
def CQ (G : Gt) (Qr : Option Value → Mm → Prop) : Array Value → State → Outcome → State → Prop := fun _ st o t => st.heap.size ≤ t.heap.size ∧ Low G t.heap ∧ ∃ v M', o = .returned v ∧ Qr v M' ∧ Rep G M' t.heap
def CX (G : Gt) (Qx : String → Mm → Prop) : String → State → State → Prop := fun E st t => st.heap.size ≤ t.heap.size ∧ Low G t.heap ∧ ∃ M', Qx E M' ∧ Rep G M' t.heap
def CP (G : Gt) (M : Mm) (As : List Value) : Array Value → State → Prop := va_Pc As (fun U => Gok G U ∧ Low G U.heap ∧ Rep G M U.heap)
def J (G : Gt) (γ : Γt) (M : Mm) (pc : Nat) (ls : List (Option Value)) (st : List Value) (k n : Nat) : Prop := match γ with
  | (p, l, e, R, s, m, args, below, meth, c, Qr, Qx, mc, ms, nL) => ∀ (H : Heap) (locs : List Loc) (lsA : Array Slot), Rep G M H → va_S (gA G) s.heap H locs → lsOk nL lsA ls → W p l e R s m args below meth c H locs k n (vx_MQ below (CQ G Qr) (CX G Qx) args s mc ms (gA G)) (F0 m pc lsA st)
def rmOf (d mc ms : Nat) : Room := { frames := d, cells := mc, slots := ms, locals := 45 * d }
def Cok (G : Gt) (γ : Γt) (own : String) (cc : ByteArray) (ret : Option FieldType) (d mc ms : Nat) (Qr : Option Value → Mm → Prop) (Qx : String → Mm → Prop) (lh : Launch) (nL : Nat) (nm : String) : Prop := match γ with
  | (p, l, e, R, s, m, args, below, meth, c, Qr1, Qx1, mc1, ms1, nL1) => p.tables.exec = Jvm.exec ∧ c.code = cc ∧ meth.sig.returnType = ret ∧ c.maxLocals = nL ∧ s.vm.findClass own = some m.cls ∧ (∀ w ∈ AW, w.before args s = true) ∧ meth.locks = false ∧ (∀ x ∈ c.exceptionTable.toList, False) ∧ Gok G s ∧ Low G s.heap ∧ l.stackTraces = false ∧ 0 < G.2.2.size ∧ l = lh ∧ R = rmOf d mc ms ∧ Qr1 = Qr ∧ Qx1 = Qx ∧ mc1 = mc ∧ ms1 = ms ∧ nL1 = nL ∧ meth.name = nm
theorem Low.of {G : Gt} {H0 H : Heap} {locs : List Loc} (h : Low G H0) (hS : va_S (gA G) H0 H locs) : Low G H :=
  ⟨Nat.le_trans h.1 hS.1, fun q hq => (hS.2.1 q (Nat.lt_of_lt_of_le hq h.1) (fun z => by unfold gA at z; omega)).trans (h.2 q hq)⟩
/-- a contract: from the memory M, with these arguments, at the depth d -/
def Ct (G : Gt) (l : Launch) (y : MethodName) (cc : ByteArray) (maxL : Nat) (ret : Option FieldType) (d : Nat) (M : Mm) (As : List Value) (mc ms : Nat) (Qr : Option Value → Mm → Prop) (Qx : String → Mm → Prop) : Prop :=
  vx_Met l y (wsOf y cc maxL ret) (rmOf d mc ms) (CP G M As) (CQ G Qr) (CX G Qx) mc ms (gA G)
end
section
theorem J_iconst {G : Gt} {γ : Γt} {own : String} {cc : ByteArray} {ret : Option FieldType} {M : Mm} {pc : Nat} {ls : List (Option Value)} {st : List Value} {k n d mc ms : Nat} {Qr : Option Value → Mm → Prop} {Qx : String → Mm → Prop} {lh : Launch} {nL : Nat} {nm : String} {i : Int} {v : Int32} (hC : Cok G γ own cc ret d mc ms Qr Qx lh nL nm) (dg : decode cc pc = .ok (.iconst i, 1)) (hv : Int32.ofInt i = v) (kk : J G γ M (pc + 1) ls (.int v :: st) k n) : J G γ M pc ls (st) k n := by
  obtain ⟨p, l, e, R, s, m, args, below, meth, c, Qr1, Qx1, mc1, ms1, nL1⟩ := γ
  obtain ⟨hx, hb, hr, hml, hown, hts, hlk, hex, hG, hLow, hst, h0, rfl, rfl, rfl, rfl, rfl, rfl, rfl, hnm⟩ := hC
  intro H locs lsA hR hS hl
  exact lv_iconst hx hb dg hv (kk H locs lsA hR hS hl)

theorem J_bipush {G : Gt} {γ : Γt} {own : String} {cc : ByteArray} {ret : Option FieldType} {M : Mm} {pc : Nat} {ls : List (Option Value)} {st : List Value} {k n d mc ms : Nat} {Qr : Option Value → Mm → Prop} {Qx : String → Mm → Prop} {lh : Launch} {nL : Nat} {nm : String} {i : Int} {v : Int32} (hC : Cok G γ own cc ret d mc ms Qr Qx lh nL nm) (dg : decode cc pc = .ok (.bipush i, 2)) (hv : (Int8.ofInt i).toInt32 = v) (kk : J G γ M (pc + 2) ls (.int v :: st) k n) : J G γ M pc ls (st) k n := by
  obtain ⟨p, l, e, R, s, m, args, below, meth, c, Qr1, Qx1, mc1, ms1, nL1⟩ := γ
  obtain ⟨hx, hb, hr, hml, hown, hts, hlk, hex, hG, hLow, hst, h0, rfl, rfl, rfl, rfl, rfl, rfl, rfl, hnm⟩ := hC
  intro H locs lsA hR hS hl
  exact lv_bipush hx hb dg hv (kk H locs lsA hR hS hl)

theorem J_sipush {G : Gt} {γ : Γt} {own : String} {cc : ByteArray} {ret : Option FieldType} {M : Mm} {pc : Nat} {ls : List (Option Value)} {st : List Value} {k n d mc ms : Nat} {Qr : Option Value → Mm → Prop} {Qx : String → Mm → Prop} {lh : Launch} {nL : Nat} {nm : String} {i : Int} {v : Int32} (hC : Cok G γ own cc ret d mc ms Qr Qx lh nL nm) (dg : decode cc pc = .ok (.sipush i, 3)) (hv : (Int16.ofInt i).toInt32 = v) (kk : J G γ M (pc + 3) ls (.int v :: st) k n) : J G γ M pc ls (st) k n := by
  obtain ⟨p, l, e, R, s, m, args, below, meth, c, Qr1, Qx1, mc1, ms1, nL1⟩ := γ
  obtain ⟨hx, hb, hr, hml, hown, hts, hlk, hex, hG, hLow, hst, h0, rfl, rfl, rfl, rfl, rfl, rfl, rfl, hnm⟩ := hC
  intro H locs lsA hR hS hl
  exact lv_sipush hx hb dg hv (kk H locs lsA hR hS hl)

theorem J_null {G : Gt} {γ : Γt} {own : String} {cc : ByteArray} {ret : Option FieldType} {M : Mm} {pc : Nat} {ls : List (Option Value)} {st : List Value} {k n d mc ms : Nat} {Qr : Option Value → Mm → Prop} {Qx : String → Mm → Prop} {lh : Launch} {nL : Nat} {nm : String} (hC : Cok G γ own cc ret d mc ms Qr Qx lh nL nm) (dg : decode cc pc = .ok (.aconst_null, 1)) (kk : J G γ M (pc + 1) ls (rv 0 :: st) k n) : J G γ M pc ls (st) k n := by
  obtain ⟨p, l, e, R, s, m, args, below, meth, c, Qr1, Qx1, mc1, ms1, nL1⟩ := γ
  obtain ⟨hx, hb, hr, hml, hown, hts, hlk, hex, hG, hLow, hst, h0, rfl, rfl, rfl, rfl, rfl, rfl, rfl, hnm⟩ := hC
  intro H locs lsA hR hS hl
  exact lv_null hx hb dg (kk H locs lsA hR hS hl)

theorem J_fconst0 {G : Gt} {γ : Γt} {own : String} {cc : ByteArray} {ret : Option FieldType} {M : Mm} {pc : Nat} {ls : List (Option Value)} {st : List Value} {k n d mc ms : Nat} {Qr : Option Value → Mm → Prop} {Qx : String → Mm → Prop} {lh : Launch} {nL : Nat} {nm : String} (hC : Cok G γ own cc ret d mc ms Qr Qx lh nL nm) (dg : decode cc pc = .ok (.fconst 0, 1)) (kk : J G γ M (pc + 1) ls (.float 0 :: st) k n) : J G γ M pc ls (st) k n := by
  obtain ⟨p, l, e, R, s, m, args, below, meth, c, Qr1, Qx1, mc1, ms1, nL1⟩ := γ
  obtain ⟨hx, hb, hr, hml, hown, hts, hlk, hex, hG, hLow, hst, h0, rfl, rfl, rfl, rfl, rfl, rfl, rfl, hnm⟩ := hC
  intro H locs lsA hR hS hl
  exact lv_fconst0 hx hb dg (kk H locs lsA hR hS hl)

theorem J_dconst0 {G : Gt} {γ : Γt} {own : String} {cc : ByteArray} {ret : Option FieldType} {M : Mm} {pc : Nat} {ls : List (Option Value)} {st : List Value} {k n d mc ms : Nat} {Qr : Option Value → Mm → Prop} {Qx : String → Mm → Prop} {lh : Launch} {nL : Nat} {nm : String} (hC : Cok G γ own cc ret d mc ms Qr Qx lh nL nm) (dg : decode cc pc = .ok (.dconst 0, 1)) (kk : J G γ M (pc + 1) ls (.double 0 :: st) k n) : J G γ M pc ls (st) k n := by
  obtain ⟨p, l, e, R, s, m, args, below, meth, c, Qr1, Qx1, mc1, ms1, nL1⟩ := γ
  obtain ⟨hx, hb, hr, hml, hown, hts, hlk, hex, hG, hLow, hst, h0, rfl, rfl, rfl, rfl, rfl, rfl, rfl, hnm⟩ := hC
  intro H locs lsA hR hS hl
  exact lv_dconst0 hx hb dg (kk H locs lsA hR hS hl)

theorem J_iload_n {G : Gt} {γ : Γt} {own : String} {cc : ByteArray} {ret : Option FieldType} {M : Mm} {pc : Nat} {ls : List (Option Value)} {st : List Value} {k n d mc ms : Nat} {Qr : Option Value → Mm → Prop} {Qx : String → Mm → Prop} {lh : Launch} {nL : Nat} {nm : String} {q : Fin 4} {i : Nat} {x : Int32} (hC : Cok G γ own cc ret d mc ms Qr Qx lh nL nm) (dg : decode cc pc = .ok (.iload_n q, 1)) (hi : (q : Nat) = i) (hv : ls[i]? = some (some (.int x))) (kk : J G γ M (pc + 1) ls (.int x :: st) k n) : J G γ M pc ls (st) k n := by
  obtain ⟨p, l, e, R, s, m, args, below, meth, c, Qr1, Qx1, mc1, ms1, nL1⟩ := γ
  obtain ⟨hx, hb, hr, hml, hown, hts, hlk, hex, hG, hLow, hst, h0, rfl, rfl, rfl, rfl, rfl, rfl, rfl, hnm⟩ := hC
  intro H locs lsA hR hS hl
  exact lv_iload_n hx hb dg hi (hl.at hv) (kk H locs lsA hR hS hl)

theorem J_iload {G : Gt} {γ : Γt} {own : String} {cc : ByteArray} {ret : Option FieldType} {M : Mm} {pc : Nat} {ls : List (Option Value)} {st : List Value} {k n d mc ms : Nat} {Qr : Option Value → Mm → Prop} {Qx : String → Mm → Prop} {lh : Launch} {nL : Nat} {nm : String} {i : Nat} {x : Int32} (hC : Cok G γ own cc ret d mc ms Qr Qx lh nL nm) (dg : decode cc pc = .ok (.iload i, 2)) (hv : ls[i]? = some (some (.int x))) (kk : J G γ M (pc + 2) ls (.int x :: st) k n) : J G γ M pc ls (st) k n := by
  obtain ⟨p, l, e, R, s, m, args, below, meth, c, Qr1, Qx1, mc1, ms1, nL1⟩ := γ
  obtain ⟨hx, hb, hr, hml, hown, hts, hlk, hex, hG, hLow, hst, h0, rfl, rfl, rfl, rfl, rfl, rfl, rfl, hnm⟩ := hC
  intro H locs lsA hR hS hl
  exact lv_iload hx hb dg (hl.at hv) (kk H locs lsA hR hS hl)

theorem J_aload_n {G : Gt} {γ : Γt} {own : String} {cc : ByteArray} {ret : Option FieldType} {M : Mm} {pc : Nat} {ls : List (Option Value)} {st : List Value} {k n d mc ms : Nat} {Qr : Option Value → Mm → Prop} {Qx : String → Mm → Prop} {lh : Launch} {nL : Nat} {nm : String} {q : Fin 4} {i : Nat} {a : Nat} (hC : Cok G γ own cc ret d mc ms Qr Qx lh nL nm) (dg : decode cc pc = .ok (.aload_n q, 1)) (hi : (q : Nat) = i) (hv : ls[i]? = some (some (rv a))) (kk : J G γ M (pc + 1) ls (rv a :: st) k n) : J G γ M pc ls (st) k n := by
  obtain ⟨p, l, e, R, s, m, args, below, meth, c, Qr1, Qx1, mc1, ms1, nL1⟩ := γ
  obtain ⟨hx, hb, hr, hml, hown, hts, hlk, hex, hG, hLow, hst, h0, rfl, rfl, rfl, rfl, rfl, rfl, rfl, hnm⟩ := hC
  intro H locs lsA hR hS hl
  have k1 := kk H locs lsA hR hS hl
  have h1 := hl.at hv
  by_cases ha : a = 0
  · subst ha; exact lv_aload_nN hx hb dg hi h1 k1
  · rw [rv_pos ha] at h1 k1; exact lv_aload_n hx hb dg hi h1 k1

theorem J_aload {G : Gt} {γ : Γt} {own : String} {cc : ByteArray} {ret : Option FieldType} {M : Mm} {pc : Nat} {ls : List (Option Value)} {st : List Value} {k n d mc ms : Nat} {Qr : Option Value → Mm → Prop} {Qx : String → Mm → Prop} {lh : Launch} {nL : Nat} {nm : String} {i : Nat} {a : Nat} (hC : Cok G γ own cc ret d mc ms Qr Qx lh nL nm) (dg : decode cc pc = .ok (.aload i, 2)) (hv : ls[i]? = some (some (rv a))) (kk : J G γ M (pc + 2) ls (rv a :: st) k n) : J G γ M pc ls (st) k n := by
  obtain ⟨p, l, e, R, s, m, args, below, meth, c, Qr1, Qx1, mc1, ms1, nL1⟩ := γ
  obtain ⟨hx, hb, hr, hml, hown, hts, hlk, hex, hG, hLow, hst, h0, rfl, rfl, rfl, rfl, rfl, rfl, rfl, hnm⟩ := hC
  intro H locs lsA hR hS hl
  have k1 := kk H locs lsA hR hS hl
  have h1 := hl.at hv
  by_cases ha : a = 0
  · subst ha; exact lv_aloadN hx hb dg h1 k1
  · rw [rv_pos ha] at h1 k1; exact lv_aload hx hb dg h1 k1

theorem J_istore_n {G : Gt} {γ : Γt} {own : String} {cc : ByteArray} {ret : Option FieldType} {M : Mm} {pc : Nat} {ls : List (Option Value)} {st : List Value} {k n d mc ms : Nat} {Qr : Option Value → Mm → Prop} {Qx : String → Mm → Prop} {lh : Launch} {nL : Nat} {nm : String} {q : Fin 4} {i : Nat} {x : Int32} {ls1 : List (Option Value)} (hC : Cok G γ own cc ret d mc ms Qr Qx lh nL nm) (dg : decode cc pc = .ok (.istore_n q, 1)) (hi : (q : Nat) = i) (hn : i < nL) (hv : lset ls i (.int x) = ls1) (kk : J G γ M (pc + 1) ls1 st k n) : J G γ M pc ls (.int x :: st) k n := by
  obtain ⟨p, l, e, R, s, m, args, below, meth, c, Qr1, Qx1, mc1, ms1, nL1⟩ := γ
  obtain ⟨hx, hb, hr, hml, hown, hts, hlk, hex, hG, hLow, hst, h0, rfl, rfl, rfl, rfl, rfl, rfl, rfl, hnm⟩ := hC
  intro H locs lsA hR hS hl
  subst hv
  exact lv_istore_n hx hb dg hi hl.1 hn rfl (fun ls2 h2 => kk H locs ls2 hR hS (hl.store rfl h2))

theorem J_istore {G : Gt} {γ : Γt} {own : String} {cc : ByteArray} {ret : Option FieldType} {M : Mm} {pc : Nat} {ls : List (Option Value)} {st : List Value} {k n d mc ms : Nat} {Qr : Option Value → Mm → Prop} {Qx : String → Mm → Prop} {lh : Launch} {nL : Nat} {nm : String} {i : Nat} {x : Int32} {ls1 : List (Option Value)} (hC : Cok G γ own cc ret d mc ms Qr Qx lh nL nm) (dg : decode cc pc = .ok (.istore i, 2)) (hn : i < nL) (hv : lset ls i (.int x) = ls1) (kk : J G γ M (pc + 2) ls1 st k n) : J G γ M pc ls (.int x :: st) k n := by
  obtain ⟨p, l, e, R, s, m, args, below, meth, c, Qr1, Qx1, mc1, ms1, nL1⟩ := γ
  obtain ⟨hx, hb, hr, hml, hown, hts, hlk, hex, hG, hLow, hst, h0, rfl, rfl, rfl, rfl, rfl, rfl, rfl, hnm⟩ := hC
  intro H locs lsA hR hS hl
  subst hv
  exact lv_istore hx hb dg hl.1 hn rfl (fun ls2 h2 => kk H locs ls2 hR hS (hl.store rfl h2))

theorem J_astore_n {G : Gt} {γ : Γt} {own : String} {cc : ByteArray} {ret : Option FieldType} {M : Mm} {pc : Nat} {ls : List (Option Value)} {st : List Value} {k n d mc ms : Nat} {Qr : Option Value → Mm → Prop} {Qx : String → Mm → Prop} {lh : Launch} {nL : Nat} {nm : String} {q : Fin 4} {i : Nat} {a : Nat} {ls1 : List (Option Value)} (hC : Cok G γ own cc ret d mc ms Qr Qx lh nL nm) (dg : decode cc pc = .ok (.astore_n q, 1)) (hi : (q : Nat) = i) (hn : i < nL) (hv : lset ls i (rv a) = ls1) (kk : J G γ M (pc + 1) ls1 st k n) : J G γ M pc ls (rv a :: st) k n := by
  obtain ⟨p, l, e, R, s, m, args, below, meth, c, Qr1, Qx1, mc1, ms1, nL1⟩ := γ
  obtain ⟨hx, hb, hr, hml, hown, hts, hlk, hex, hG, hLow, hst, h0, rfl, rfl, rfl, rfl, rfl, rfl, rfl, hnm⟩ := hC
  intro H locs lsA hR hS hl
  subst hv
  by_cases ha : a = 0
  · subst ha
    exact lv_astore_nN hx hb dg hi hl.1 hn rfl (fun ls2 h2 => kk H locs ls2 hR hS (hl.store rfl h2))
  · rw [rv_pos ha] at kk ⊢
    exact lv_astore_n hx hb dg hi hl.1 hn rfl (fun ls2 h2 => kk H locs ls2 hR hS (hl.store rfl h2))

theorem J_astore {G : Gt} {γ : Γt} {own : String} {cc : ByteArray} {ret : Option FieldType} {M : Mm} {pc : Nat} {ls : List (Option Value)} {st : List Value} {k n d mc ms : Nat} {Qr : Option Value → Mm → Prop} {Qx : String → Mm → Prop} {lh : Launch} {nL : Nat} {nm : String} {i : Nat} {a : Nat} {ls1 : List (Option Value)} (hC : Cok G γ own cc ret d mc ms Qr Qx lh nL nm) (dg : decode cc pc = .ok (.astore i, 2)) (hn : i < nL) (hv : lset ls i (rv a) = ls1) (kk : J G γ M (pc + 2) ls1 st k n) : J G γ M pc ls (rv a :: st) k n := by
  obtain ⟨p, l, e, R, s, m, args, below, meth, c, Qr1, Qx1, mc1, ms1, nL1⟩ := γ
  obtain ⟨hx, hb, hr, hml, hown, hts, hlk, hex, hG, hLow, hst, h0, rfl, rfl, rfl, rfl, rfl, rfl, rfl, hnm⟩ := hC
  intro H locs lsA hR hS hl
  subst hv
  by_cases ha : a = 0
  · subst ha
    exact lv_astoreN hx hb dg hl.1 hn rfl (fun ls2 h2 => kk H locs ls2 hR hS (hl.store rfl h2))
  · rw [rv_pos ha] at kk ⊢
    exact lv_astore hx hb dg hl.1 hn rfl (fun ls2 h2 => kk H locs ls2 hR hS (hl.store rfl h2))

theorem J_iinc {G : Gt} {γ : Γt} {own : String} {cc : ByteArray} {ret : Option FieldType} {M : Mm} {pc : Nat} {ls : List (Option Value)} {st : List Value} {k n d mc ms : Nat} {Qr : Option Value → Mm → Prop} {Qx : String → Mm → Prop} {lh : Launch} {nL : Nat} {nm : String} {i : Nat} {j : Int} {x v : Int32} {ls1 : List (Option Value)} (hC : Cok G γ own cc ret d mc ms Qr Qx lh nL nm) (dg : decode cc pc = .ok (.iinc i j, 3)) (hn : i < nL) (hi : ls[i]? = some (some (.int x))) (hj : x + Int32.ofInt j = v) (hv : lset ls i (.int v) = ls1) (kk : J G γ M (pc + 3) ls1 st k n) : J G γ M pc ls (st) k n := by
  obtain ⟨p, l, e, R, s, m, args, below, meth, c, Qr1, Qx1, mc1, ms1, nL1⟩ := γ
  obtain ⟨hx, hb, hr, hml, hown, hts, hlk, hex, hG, hLow, hst, h0, rfl, rfl, rfl, rfl, rfl, rfl, rfl, hnm⟩ := hC
  intro H locs lsA hR hS hl
  subst hv
  obtain ⟨q, hq⟩ := List.getElem?_of_mem ((lsP_mem ls 0 (i, .int x)).mpr ⟨Nat.zero_le _, by simpa using hi⟩)
  exact lv_iinc hx hb dg hl.1 hq hj hn rfl (fun ls2 h2 => kk H locs ls2 hR hS (hl.store rfl h2))

theorem J_iadd {G : Gt} {γ : Γt} {own : String} {cc : ByteArray} {ret : Option FieldType} {M : Mm} {pc : Nat} {ls : List (Option Value)} {st : List Value} {k n d mc ms : Nat} {Qr : Option Value → Mm → Prop} {Qx : String → Mm → Prop} {lh : Launch} {nL : Nat} {nm : String} {x y : Int32} (hC : Cok G γ own cc ret d mc ms Qr Qx lh nL nm) (dg : decode cc pc = .ok (.iadd, 1)) (kk : J G γ M (pc + 1) ls (.int (x + y) :: st) k n) : J G γ M pc ls (.int y :: .int x :: st) k n := by
  obtain ⟨p, l, e, R, s, m, args, below, meth, c, Qr1, Qx1, mc1, ms1, nL1⟩ := γ
  obtain ⟨hx, hb, hr, hml, hown, hts, hlk, hex, hG, hLow, hst, h0, rfl, rfl, rfl, rfl, rfl, rfl, rfl, hnm⟩ := hC
  intro H locs lsA hR hS hl
  exact lv_iadd hx hb dg (kk H locs lsA hR hS hl)

theorem J_isub {G : Gt} {γ : Γt} {own : String} {cc : ByteArray} {ret : Option FieldType} {M : Mm} {pc : Nat} {ls : List (Option Value)} {st : List Value} {k n d mc ms : Nat} {Qr : Option Value → Mm → Prop} {Qx : String → Mm → Prop} {lh : Launch} {nL : Nat} {nm : String} {x y : Int32} (hC : Cok G γ own cc ret d mc ms Qr Qx lh nL nm) (dg : decode cc pc = .ok (.isub, 1)) (kk : J G γ M (pc + 1) ls (.int (x - y) :: st) k n) : J G γ M pc ls (.int y :: .int x :: st) k n := by
  obtain ⟨p, l, e, R, s, m, args, below, meth, c, Qr1, Qx1, mc1, ms1, nL1⟩ := γ
  obtain ⟨hx, hb, hr, hml, hown, hts, hlk, hex, hG, hLow, hst, h0, rfl, rfl, rfl, rfl, rfl, rfl, rfl, hnm⟩ := hC
  intro H locs lsA hR hS hl
  exact lv_isub hx hb dg (kk H locs lsA hR hS hl)

theorem J_imul {G : Gt} {γ : Γt} {own : String} {cc : ByteArray} {ret : Option FieldType} {M : Mm} {pc : Nat} {ls : List (Option Value)} {st : List Value} {k n d mc ms : Nat} {Qr : Option Value → Mm → Prop} {Qx : String → Mm → Prop} {lh : Launch} {nL : Nat} {nm : String} {x y : Int32} (hC : Cok G γ own cc ret d mc ms Qr Qx lh nL nm) (dg : decode cc pc = .ok (.imul, 1)) (kk : J G γ M (pc + 1) ls (.int (x * y) :: st) k n) : J G γ M pc ls (.int y :: .int x :: st) k n := by
  obtain ⟨p, l, e, R, s, m, args, below, meth, c, Qr1, Qx1, mc1, ms1, nL1⟩ := γ
  obtain ⟨hx, hb, hr, hml, hown, hts, hlk, hex, hG, hLow, hst, h0, rfl, rfl, rfl, rfl, rfl, rfl, rfl, hnm⟩ := hC
  intro H locs lsA hR hS hl
  exact lv_imul hx hb dg (kk H locs lsA hR hS hl)

theorem J_iand {G : Gt} {γ : Γt} {own : String} {cc : ByteArray} {ret : Option FieldType} {M : Mm} {pc : Nat} {ls : List (Option Value)} {st : List Value} {k n d mc ms : Nat} {Qr : Option Value → Mm → Prop} {Qx : String → Mm → Prop} {lh : Launch} {nL : Nat} {nm : String} {x y : Int32} (hC : Cok G γ own cc ret d mc ms Qr Qx lh nL nm) (dg : decode cc pc = .ok (.iand, 1)) (kk : J G γ M (pc + 1) ls (.int (x &&& y) :: st) k n) : J G γ M pc ls (.int y :: .int x :: st) k n := by
  obtain ⟨p, l, e, R, s, m, args, below, meth, c, Qr1, Qx1, mc1, ms1, nL1⟩ := γ
  obtain ⟨hx, hb, hr, hml, hown, hts, hlk, hex, hG, hLow, hst, h0, rfl, rfl, rfl, rfl, rfl, rfl, rfl, hnm⟩ := hC
  intro H locs lsA hR hS hl
  exact lv_iand hx hb dg (kk H locs lsA hR hS hl)

theorem J_idiv {G : Gt} {γ : Γt} {own : String} {cc : ByteArray} {ret : Option FieldType} {M : Mm} {pc : Nat} {ls : List (Option Value)} {st : List Value} {k n d mc ms : Nat} {Qr : Option Value → Mm → Prop} {Qx : String → Mm → Prop} {lh : Launch} {nL : Nat} {nm : String} {x y : Int32} (hC : Cok G γ own cc ret d mc ms Qr Qx lh nL nm) (dg : decode cc pc = .ok (.idiv, 1)) (hy : ¬ y = 0) (kk : J G γ M (pc + 1) ls (.int (x / y) :: st) k n) : J G γ M pc ls (.int y :: .int x :: st) k n := by
  obtain ⟨p, l, e, R, s, m, args, below, meth, c, Qr1, Qx1, mc1, ms1, nL1⟩ := γ
  obtain ⟨hx, hb, hr, hml, hown, hts, hlk, hex, hG, hLow, hst, h0, rfl, rfl, rfl, rfl, rfl, rfl, rfl, hnm⟩ := hC
  intro H locs lsA hR hS hl
  exact lv_idiv hx hb dg hy (kk H locs lsA hR hS hl)

theorem J_ineg {G : Gt} {γ : Γt} {own : String} {cc : ByteArray} {ret : Option FieldType} {M : Mm} {pc : Nat} {ls : List (Option Value)} {st : List Value} {k n d mc ms : Nat} {Qr : Option Value → Mm → Prop} {Qx : String → Mm → Prop} {lh : Launch} {nL : Nat} {nm : String} {x : Int32} (hC : Cok G γ own cc ret d mc ms Qr Qx lh nL nm) (dg : decode cc pc = .ok (.ineg, 1)) (kk : J G γ M (pc + 1) ls (.int (-x) :: st) k n) : J G γ M pc ls (.int x :: st) k n := by
  obtain ⟨p, l, e, R, s, m, args, below, meth, c, Qr1, Qx1, mc1, ms1, nL1⟩ := γ
  obtain ⟨hx, hb, hr, hml, hown, hts, hlk, hex, hG, hLow, hst, h0, rfl, rfl, rfl, rfl, rfl, rfl, rfl, hnm⟩ := hC
  intro H locs lsA hR hS hl
  exact lv_ineg hx hb dg (kk H locs lsA hR hS hl)

theorem J_i2c {G : Gt} {γ : Γt} {own : String} {cc : ByteArray} {ret : Option FieldType} {M : Mm} {pc : Nat} {ls : List (Option Value)} {st : List Value} {k n d mc ms : Nat} {Qr : Option Value → Mm → Prop} {Qx : String → Mm → Prop} {lh : Launch} {nL : Nat} {nm : String} {x v : Int32} (hC : Cok G γ own cc ret d mc ms Qr Qx lh nL nm) (dg : decode cc pc = .ok (.i2c, 1)) (hv : (x.toUInt32 % 65536).toInt32 = v) (kk : J G γ M (pc + 1) ls (.int v :: st) k n) : J G γ M pc ls (.int x :: st) k n := by
  obtain ⟨p, l, e, R, s, m, args, below, meth, c, Qr1, Qx1, mc1, ms1, nL1⟩ := γ
  obtain ⟨hx, hb, hr, hml, hown, hts, hlk, hex, hG, hLow, hst, h0, rfl, rfl, rfl, rfl, rfl, rfl, rfl, hnm⟩ := hC
  intro H locs lsA hR hS hl
  exact lv_i2c hx hb dg hv (kk H locs lsA hR hS hl)

theorem J_i2l {G : Gt} {γ : Γt} {own : String} {cc : ByteArray} {ret : Option FieldType} {M : Mm} {pc : Nat} {ls : List (Option Value)} {st : List Value} {k n d mc ms : Nat} {Qr : Option Value → Mm → Prop} {Qx : String → Mm → Prop} {lh : Launch} {nL : Nat} {nm : String} {x : Int32} (hC : Cok G γ own cc ret d mc ms Qr Qx lh nL nm) (dg : decode cc pc = .ok (.i2l, 1)) (kk : J G γ M (pc + 1) ls (.long x.toInt64 :: st) k n) : J G γ M pc ls (.int x :: st) k n := by
  obtain ⟨p, l, e, R, s, m, args, below, meth, c, Qr1, Qx1, mc1, ms1, nL1⟩ := γ
  obtain ⟨hx, hb, hr, hml, hown, hts, hlk, hex, hG, hLow, hst, h0, rfl, rfl, rfl, rfl, rfl, rfl, rfl, hnm⟩ := hC
  intro H locs lsA hR hS hl
  exact lv_i2l hx hb dg rfl (kk H locs lsA hR hS hl)

theorem J_ladd {G : Gt} {γ : Γt} {own : String} {cc : ByteArray} {ret : Option FieldType} {M : Mm} {pc : Nat} {ls : List (Option Value)} {st : List Value} {k n d mc ms : Nat} {Qr : Option Value → Mm → Prop} {Qx : String → Mm → Prop} {lh : Launch} {nL : Nat} {nm : String} {x y : Int64} (hC : Cok G γ own cc ret d mc ms Qr Qx lh nL nm) (dg : decode cc pc = .ok (.ladd, 1)) (kk : J G γ M (pc + 1) ls (.long (x + y) :: st) k n) : J G γ M pc ls (.long y :: .long x :: st) k n := by
  obtain ⟨p, l, e, R, s, m, args, below, meth, c, Qr1, Qx1, mc1, ms1, nL1⟩ := γ
  obtain ⟨hx, hb, hr, hml, hown, hts, hlk, hex, hG, hLow, hst, h0, rfl, rfl, rfl, rfl, rfl, rfl, rfl, hnm⟩ := hC
  intro H locs lsA hR hS hl
  exact lv_ladd hx hb dg (kk H locs lsA hR hS hl)

theorem J_i2f {G : Gt} {γ : Γt} {own : String} {cc : ByteArray} {ret : Option FieldType} {M : Mm} {pc : Nat} {ls : List (Option Value)} {st : List Value} {k n d mc ms : Nat} {Qr : Option Value → Mm → Prop} {Qx : String → Mm → Prop} {lh : Launch} {nL : Nat} {nm : String} {x : Int32} (hC : Cok G γ own cc ret d mc ms Qr Qx lh nL nm) (dg : decode cc pc = .ok (.i2f, 1)) (kk : J G γ M (pc + 1) ls (.float (FP.i2f x) :: st) k n) : J G γ M pc ls (.int x :: st) k n := by
  obtain ⟨p, l, e, R, s, m, args, below, meth, c, Qr1, Qx1, mc1, ms1, nL1⟩ := γ
  obtain ⟨hx, hb, hr, hml, hown, hts, hlk, hex, hG, hLow, hst, h0, rfl, rfl, rfl, rfl, rfl, rfl, rfl, hnm⟩ := hC
  intro H locs lsA hR hS hl
  exact lv_i2f hx hb dg (kk H locs lsA hR hS hl)

theorem J_i2d {G : Gt} {γ : Γt} {own : String} {cc : ByteArray} {ret : Option FieldType} {M : Mm} {pc : Nat} {ls : List (Option Value)} {st : List Value} {k n d mc ms : Nat} {Qr : Option Value → Mm → Prop} {Qx : String → Mm → Prop} {lh : Launch} {nL : Nat} {nm : String} {x : Int32} (hC : Cok G γ own cc ret d mc ms Qr Qx lh nL nm) (dg : decode cc pc = .ok (.i2d, 1)) (kk : J G γ M (pc + 1) ls (.double (FP.i2d x) :: st) k n) : J G γ M pc ls (.int x :: st) k n := by
  obtain ⟨p, l, e, R, s, m, args, below, meth, c, Qr1, Qx1, mc1, ms1, nL1⟩ := γ
  obtain ⟨hx, hb, hr, hml, hown, hts, hlk, hex, hG, hLow, hst, h0, rfl, rfl, rfl, rfl, rfl, rfl, rfl, hnm⟩ := hC
  intro H locs lsA hR hS hl
  exact lv_i2d hx hb dg (kk H locs lsA hR hS hl)

theorem J_fdiv {G : Gt} {γ : Γt} {own : String} {cc : ByteArray} {ret : Option FieldType} {M : Mm} {pc : Nat} {ls : List (Option Value)} {st : List Value} {k n d mc ms : Nat} {Qr : Option Value → Mm → Prop} {Qx : String → Mm → Prop} {lh : Launch} {nL : Nat} {nm : String} {x y : UInt32} (hC : Cok G γ own cc ret d mc ms Qr Qx lh nL nm) (dg : decode cc pc = .ok (.fdiv, 1)) (hne : vf_n32 (FP.fdiv x y)) (kk : J G γ M (pc + 1) ls (.float (FP.fdiv x y) :: st) k n) : J G γ M pc ls (.float y :: .float x :: st) k n := by
  obtain ⟨p, l, e, R, s, m, args, below, meth, c, Qr1, Qx1, mc1, ms1, nL1⟩ := γ
  obtain ⟨hx, hb, hr, hml, hown, hts, hlk, hex, hG, hLow, hst, h0, rfl, rfl, rfl, rfl, rfl, rfl, rfl, hnm⟩ := hC
  intro H locs lsA hR hS hl
  exact lv_fdiv hx hb dg hne (kk H locs lsA hR hS hl)

theorem J_ddiv {G : Gt} {γ : Γt} {own : String} {cc : ByteArray} {ret : Option FieldType} {M : Mm} {pc : Nat} {ls : List (Option Value)} {st : List Value} {k n d mc ms : Nat} {Qr : Option Value → Mm → Prop} {Qx : String → Mm → Prop} {lh : Launch} {nL : Nat} {nm : String} {x y : UInt64} (hC : Cok G γ own cc ret d mc ms Qr Qx lh nL nm) (dg : decode cc pc = .ok (.ddiv, 1)) (hne : vf_n64 (FP.ddiv x y)) (kk : J G γ M (pc + 1) ls (.double (FP.ddiv x y) :: st) k n) : J G γ M pc ls (.double y :: .double x :: st) k n := by
  obtain ⟨p, l, e, R, s, m, args, below, meth, c, Qr1, Qx1, mc1, ms1, nL1⟩ := γ
  obtain ⟨hx, hb, hr, hml, hown, hts, hlk, hex, hG, hLow, hst, h0, rfl, rfl, rfl, rfl, rfl, rfl, rfl, hnm⟩ := hC
  intro H locs lsA hR hS hl
  exact lv_ddiv hx hb dg hne (kk H locs lsA hR hS hl)

theorem J_f2d {G : Gt} {γ : Γt} {own : String} {cc : ByteArray} {ret : Option FieldType} {M : Mm} {pc : Nat} {ls : List (Option Value)} {st : List Value} {k n d mc ms : Nat} {Qr : Option Value → Mm → Prop} {Qx : String → Mm → Prop} {lh : Launch} {nL : Nat} {nm : String} {x : UInt32} (hC : Cok G γ own cc ret d mc ms Qr Qx lh nL nm) (dg : decode cc pc = .ok (.f2d, 1)) (hne : vf_n64 (FP.f2d x)) (kk : J G γ M (pc + 1) ls (.double (FP.f2d x) :: st) k n) : J G γ M pc ls (.float x :: st) k n := by
  obtain ⟨p, l, e, R, s, m, args, below, meth, c, Qr1, Qx1, mc1, ms1, nL1⟩ := γ
  obtain ⟨hx, hb, hr, hml, hown, hts, hlk, hex, hG, hLow, hst, h0, rfl, rfl, rfl, rfl, rfl, rfl, rfl, hnm⟩ := hC
  intro H locs lsA hR hS hl
  exact lv_f2d hx hb dg hne (kk H locs lsA hR hS hl)

theorem J_dup {G : Gt} {γ : Γt} {own : String} {cc : ByteArray} {ret : Option FieldType} {M : Mm} {pc : Nat} {ls : List (Option Value)} {st : List Value} {k n d mc ms : Nat} {Qr : Option Value → Mm → Prop} {Qx : String → Mm → Prop} {lh : Launch} {nL : Nat} {nm : String} {v : Value} (hC : Cok G γ own cc ret d mc ms Qr Qx lh nL nm) (dg : decode cc pc = .ok (.dup, 1)) (hv : v.category = 1) (kk : J G γ M (pc + 1) ls (v :: v :: st) k n) : J G γ M pc ls (v :: st) k n := by
  obtain ⟨p, l, e, R, s, m, args, below, meth, c, Qr1, Qx1, mc1, ms1, nL1⟩ := γ
  obtain ⟨hx, hb, hr, hml, hown, hts, hlk, hex, hG, hLow, hst, h0, rfl, rfl, rfl, rfl, rfl, rfl, rfl, hnm⟩ := hC
  intro H locs lsA hR hS hl
  exact lv_dup hx hb dg hv (kk H locs lsA hR hS hl)

theorem J_pop {G : Gt} {γ : Γt} {own : String} {cc : ByteArray} {ret : Option FieldType} {M : Mm} {pc : Nat} {ls : List (Option Value)} {st : List Value} {k n d mc ms : Nat} {Qr : Option Value → Mm → Prop} {Qx : String → Mm → Prop} {lh : Launch} {nL : Nat} {nm : String} {v : Value} (hC : Cok G γ own cc ret d mc ms Qr Qx lh nL nm) (dg : decode cc pc = .ok (.pop, 1)) (hv : v.category = 1) (kk : J G γ M (pc + 1) ls (st) k n) : J G γ M pc ls (v :: st) k n := by
  obtain ⟨p, l, e, R, s, m, args, below, meth, c, Qr1, Qx1, mc1, ms1, nL1⟩ := γ
  obtain ⟨hx, hb, hr, hml, hown, hts, hlk, hex, hG, hLow, hst, h0, rfl, rfl, rfl, rfl, rfl, rfl, rfl, hnm⟩ := hC
  intro H locs lsA hR hS hl
  exact lv_pop hx hb dg hv (kk H locs lsA hR hS hl)

theorem J_dup2 {G : Gt} {γ : Γt} {own : String} {cc : ByteArray} {ret : Option FieldType} {M : Mm} {pc : Nat} {ls : List (Option Value)} {st : List Value} {k n d mc ms : Nat} {Qr : Option Value → Mm → Prop} {Qx : String → Mm → Prop} {lh : Launch} {nL : Nat} {nm : String} {v w : Value} (hC : Cok G γ own cc ret d mc ms Qr Qx lh nL nm) (dg : decode cc pc = .ok (.dup2, 1)) (hv : v.category = 1) (hw : w.category = 1) (kk : J G γ M (pc + 1) ls (v :: w :: v :: w :: st) k n) : J G γ M pc ls (v :: w :: st) k n := by
  obtain ⟨p, l, e, R, s, m, args, below, meth, c, Qr1, Qx1, mc1, ms1, nL1⟩ := γ
  obtain ⟨hx, hb, hr, hml, hown, hts, hlk, hex, hG, hLow, hst, h0, rfl, rfl, rfl, rfl, rfl, rfl, rfl, hnm⟩ := hC
  intro H locs lsA hR hS hl
  exact lv_dup2_11 hx hb dg hv hw (kk H locs lsA hR hS hl)

theorem J_if_eq {G : Gt} {γ : Γt} {own : String} {cc : ByteArray} {ret : Option FieldType} {M : Mm} {pc : Nat} {ls : List (Option Value)} {st : List Value} {k n d mc ms : Nat} {Qr : Option Value → Mm → Prop} {Qx : String → Mm → Prop} {lh : Launch} {nL : Nat} {nm : String} {x : Int32} {off : Int} {tgt : Nat} (hC : Cok G γ own cc ret d mc ms Qr Qx lh nL nm) (dg : decode cc pc = .ok (.ifCond .eq off, 3)) (ht : (pc : Int) + off = (tgt : Int)) (kt : x = 0 → J G γ M tgt ls st k n) (kf : ¬ (x = 0) → J G γ M (pc + 3) ls st k n) : J G γ M pc ls (.int x :: st) k n := by
  obtain ⟨p, l, e, R, s, m, args, below, meth, c, Qr1, Qx1, mc1, ms1, nL1⟩ := γ
  obtain ⟨hx, hb, hr, hml, hown, hts, hlk, hex, hG, hLow, hst, h0, rfl, rfl, rfl, rfl, rfl, rfl, rfl, hnm⟩ := hC
  intro H locs lsA hR hS hl
  exact lv_if_eq hx hb dg ht (fun h => kt (by first | exact h | omega | (simpa using h)) H locs lsA hR hS hl) (fun h => kf (by first | exact h | (simpa using h)) H locs lsA hR hS hl)

theorem J_if_ne {G : Gt} {γ : Γt} {own : String} {cc : ByteArray} {ret : Option FieldType} {M : Mm} {pc : Nat} {ls : List (Option Value)} {st : List Value} {k n d mc ms : Nat} {Qr : Option Value → Mm → Prop} {Qx : String → Mm → Prop} {lh : Launch} {nL : Nat} {nm : String} {x : Int32} {off : Int} {tgt : Nat} (hC : Cok G γ own cc ret d mc ms Qr Qx lh nL nm) (dg : decode cc pc = .ok (.ifCond .ne off, 3)) (ht : (pc : Int) + off = (tgt : Int)) (kt : ¬ x = 0 → J G γ M tgt ls st k n) (kf : ¬ (¬ x = 0) → J G γ M (pc + 3) ls st k n) : J G γ M pc ls (.int x :: st) k n := by
  obtain ⟨p, l, e, R, s, m, args, below, meth, c, Qr1, Qx1, mc1, ms1, nL1⟩ := γ
  obtain ⟨hx, hb, hr, hml, hown, hts, hlk, hex, hG, hLow, hst, h0, rfl, rfl, rfl, rfl, rfl, rfl, rfl, hnm⟩ := hC
  intro H locs lsA hR hS hl
  exact lv_if_ne hx hb dg ht (fun h => kt (by first | exact h | omega | (simpa using h)) H locs lsA hR hS hl) (fun h => kf (by first | exact h | (simpa using h)) H locs lsA hR hS hl)

theorem J_if_lt {G : Gt} {γ : Γt} {own : String} {cc : ByteArray} {ret : Option FieldType} {M : Mm} {pc : Nat} {ls : List (Option Value)} {st : List Value} {k n d mc ms : Nat} {Qr : Option Value → Mm → Prop} {Qx : String → Mm → Prop} {lh : Launch} {nL : Nat} {nm : String} {x : Int32} {off : Int} {tgt : Nat} (hC : Cok G γ own cc ret d mc ms Qr Qx lh nL nm) (dg : decode cc pc = .ok (.ifCond .lt off, 3)) (ht : (pc : Int) + off = (tgt : Int)) (kt : x < 0 → J G γ M tgt ls st k n) (kf : ¬ (x < 0) → J G γ M (pc + 3) ls st k n) : J G γ M pc ls (.int x :: st) k n := by
  obtain ⟨p, l, e, R, s, m, args, below, meth, c, Qr1, Qx1, mc1, ms1, nL1⟩ := γ
  obtain ⟨hx, hb, hr, hml, hown, hts, hlk, hex, hG, hLow, hst, h0, rfl, rfl, rfl, rfl, rfl, rfl, rfl, hnm⟩ := hC
  intro H locs lsA hR hS hl
  exact lv_if_lt hx hb dg ht (fun h => kt (by first | exact h | omega | (simpa using h)) H locs lsA hR hS hl) (fun h => kf (by first | exact h | (simpa using h)) H locs lsA hR hS hl)

theorem J_if_le {G : Gt} {γ : Γt} {own : String} {cc : ByteArray} {ret : Option FieldType} {M : Mm} {pc : Nat} {ls : List (Option Value)} {st : List Value} {k n d mc ms : Nat} {Qr : Option Value → Mm → Prop} {Qx : String → Mm → Prop} {lh : Launch} {nL : Nat} {nm : String} {x : Int32} {off : Int} {tgt : Nat} (hC : Cok G γ own cc ret d mc ms Qr Qx lh nL nm) (dg : decode cc pc = .ok (.ifCond .le off, 3)) (ht : (pc : Int) + off = (tgt : Int)) (kt : x ≤ 0 → J G γ M tgt ls st k n) (kf : ¬ (x ≤ 0) → J G γ M (pc + 3) ls st k n) : J G γ M pc ls (.int x :: st) k n := by
  obtain ⟨p, l, e, R, s, m, args, below, meth, c, Qr1, Qx1, mc1, ms1, nL1⟩ := γ
  obtain ⟨hx, hb, hr, hml, hown, hts, hlk, hex, hG, hLow, hst, h0, rfl, rfl, rfl, rfl, rfl, rfl, rfl, hnm⟩ := hC
  intro H locs lsA hR hS hl
  exact lv_if_le hx hb dg ht (fun h => kt (by first | exact h | omega | (simpa using h)) H locs lsA hR hS hl) (fun h => kf (by first | exact h | (simpa using h)) H locs lsA hR hS hl)

theorem J_if_gt {G : Gt} {γ : Γt} {own : String} {cc : ByteArray} {ret : Option FieldType} {M : Mm} {pc : Nat} {ls : List (Option Value)} {st : List Value} {k n d mc ms : Nat} {Qr : Option Value → Mm → Prop} {Qx : String → Mm → Prop} {lh : Launch} {nL : Nat} {nm : String} {x : Int32} {off : Int} {tgt : Nat} (hC : Cok G γ own cc ret d mc ms Qr Qx lh nL nm) (dg : decode cc pc = .ok (.ifCond .gt off, 3)) (ht : (pc : Int) + off = (tgt : Int)) (kt : 0 < x → J G γ M tgt ls st k n) (kf : ¬ (0 < x) → J G γ M (pc + 3) ls st k n) : J G γ M pc ls (.int x :: st) k n := by
  obtain ⟨p, l, e, R, s, m, args, below, meth, c, Qr1, Qx1, mc1, ms1, nL1⟩ := γ
  obtain ⟨hx, hb, hr, hml, hown, hts, hlk, hex, hG, hLow, hst, h0, rfl, rfl, rfl, rfl, rfl, rfl, rfl, hnm⟩ := hC
  intro H locs lsA hR hS hl
  exact lv_if_gt hx hb dg ht (fun h => kt (by first | exact h | omega | (simpa using h)) H locs lsA hR hS hl) (fun h => kf (by first | exact h | (simpa using h)) H locs lsA hR hS hl)

theorem J_if_ge {G : Gt} {γ : Γt} {own : String} {cc : ByteArray} {ret : Option FieldType} {M : Mm} {pc : Nat} {ls : List (Option Value)} {st : List Value} {k n d mc ms : Nat} {Qr : Option Value → Mm → Prop} {Qx : String → Mm → Prop} {lh : Launch} {nL : Nat} {nm : String} {x : Int32} {off : Int} {tgt : Nat} (hC : Cok G γ own cc ret d mc ms Qr Qx lh nL nm) (dg : decode cc pc = .ok (.ifCond .ge off, 3)) (ht : (pc : Int) + off = (tgt : Int)) (kt : 0 ≤ x → J G γ M tgt ls st k n) (kf : ¬ (0 ≤ x) → J G γ M (pc + 3) ls st k n) : J G γ M pc ls (.int x :: st) k n := by
  obtain ⟨p, l, e, R, s, m, args, below, meth, c, Qr1, Qx1, mc1, ms1, nL1⟩ := γ
  obtain ⟨hx, hb, hr, hml, hown, hts, hlk, hex, hG, hLow, hst, h0, rfl, rfl, rfl, rfl, rfl, rfl, rfl, hnm⟩ := hC
  intro H locs lsA hR hS hl
  exact lv_if_ge hx hb dg ht (fun h => kt (by first | exact h | omega | (simpa using h)) H locs lsA hR hS hl) (fun h => kf (by first | exact h | (simpa using h)) H locs lsA hR hS hl)

theorem J_icmp_eq {G : Gt} {γ : Γt} {own : String} {cc : ByteArray} {ret : Option FieldType} {M : Mm} {pc : Nat} {ls : List (Option Value)} {st : List Value} {k n d mc ms : Nat} {Qr : Option Value → Mm → Prop} {Qx : String → Mm → Prop} {lh : Launch} {nL : Nat} {nm : String} {x y : Int32} {off : Int} {tgt : Nat} (hC : Cok G γ own cc ret d mc ms Qr Qx lh nL nm) (dg : decode cc pc = .ok (.if_icmp .eq off, 3)) (ht : (pc : Int) + off = (tgt : Int)) (kt : x = y → J G γ M tgt ls st k n) (kf : ¬ (x = y) → J G γ M (pc + 3) ls st k n) : J G γ M pc ls (.int y :: .int x :: st) k n := by
  obtain ⟨p, l, e, R, s, m, args, below, meth, c, Qr1, Qx1, mc1, ms1, nL1⟩ := γ
  obtain ⟨hx, hb, hr, hml, hown, hts, hlk, hex, hG, hLow, hst, h0, rfl, rfl, rfl, rfl, rfl, rfl, rfl, hnm⟩ := hC
  intro H locs lsA hR hS hl
  exact lv_icmp_eq hx hb dg ht (fun h => kt (by first | exact h | (simpa using h)) H locs lsA hR hS hl) (fun h => kf (by first | exact h | (simpa using h)) H locs lsA hR hS hl)

theorem J_icmp_ne {G : Gt} {γ : Γt} {own : String} {cc : ByteArray} {ret : Option FieldType} {M : Mm} {pc : Nat} {ls : List (Option Value)} {st : List Value} {k n d mc ms : Nat} {Qr : Option Value → Mm → Prop} {Qx : String → Mm → Prop} {lh : Launch} {nL : Nat} {nm : String} {x y : Int32} {off : Int} {tgt : Nat} (hC : Cok G γ own cc ret d mc ms Qr Qx lh nL nm) (dg : decode cc pc = .ok (.if_icmp .ne off, 3)) (ht : (pc : Int) + off = (tgt : Int)) (kt : ¬ x = y → J G γ M tgt ls st k n) (kf : ¬ (¬ x = y) → J G γ M (pc + 3) ls st k n) : J G γ M pc ls (.int y :: .int x :: st) k n := by
  obtain ⟨p, l, e, R, s, m, args, below, meth, c, Qr1, Qx1, mc1, ms1, nL1⟩ := γ
  obtain ⟨hx, hb, hr, hml, hown, hts, hlk, hex, hG, hLow, hst, h0, rfl, rfl, rfl, rfl, rfl, rfl, rfl, hnm⟩ := hC
  intro H locs lsA hR hS hl
  exact lv_icmp_ne hx hb dg ht (fun h => kt (by first | exact h | (simpa using h)) H locs lsA hR hS hl) (fun h => kf (by first | exact h | (simpa using h)) H locs lsA hR hS hl)

theorem J_icmp_lt {G : Gt} {γ : Γt} {own : String} {cc : ByteArray} {ret : Option FieldType} {M : Mm} {pc : Nat} {ls : List (Option Value)} {st : List Value} {k n d mc ms : Nat} {Qr : Option Value → Mm → Prop} {Qx : String → Mm → Prop} {lh : Launch} {nL : Nat} {nm : String} {x y : Int32} {off : Int} {tgt : Nat} (hC : Cok G γ own cc ret d mc ms Qr Qx lh nL nm) (dg : decode cc pc = .ok (.if_icmp .lt off, 3)) (ht : (pc : Int) + off = (tgt : Int)) (kt : x < y → J G γ M tgt ls st k n) (kf : ¬ (x < y) → J G γ M (pc + 3) ls st k n) : J G γ M pc ls (.int y :: .int x :: st) k n := by
  obtain ⟨p, l, e, R, s, m, args, below, meth, c, Qr1, Qx1, mc1, ms1, nL1⟩ := γ
  obtain ⟨hx, hb, hr, hml, hown, hts, hlk, hex, hG, hLow, hst, h0, rfl, rfl, rfl, rfl, rfl, rfl, rfl, hnm⟩ := hC
  intro H locs lsA hR hS hl
  exact lv_icmp_lt hx hb dg ht (fun h => kt (by first | exact h | (simpa using h)) H locs lsA hR hS hl) (fun h => kf (by first | exact h | (simpa using h)) H locs lsA hR hS hl)

theorem J_icmp_le {G : Gt} {γ : Γt} {own : String} {cc : ByteArray} {ret : Option FieldType} {M : Mm} {pc : Nat} {ls : List (Option Value)} {st : List Value} {k n d mc ms : Nat} {Qr : Option Value → Mm → Prop} {Qx : String → Mm → Prop} {lh : Launch} {nL : Nat} {nm : String} {x y : Int32} {off : Int} {tgt : Nat} (hC : Cok G γ own cc ret d mc ms Qr Qx lh nL nm) (dg : decode cc pc = .ok (.if_icmp .le off, 3)) (ht : (pc : Int) + off = (tgt : Int)) (kt : x ≤ y → J G γ M tgt ls st k n) (kf : ¬ (x ≤ y) → J G γ M (pc + 3) ls st k n) : J G γ M pc ls (.int y :: .int x :: st) k n := by
  obtain ⟨p, l, e, R, s, m, args, below, meth, c, Qr1, Qx1, mc1, ms1, nL1⟩ := γ
  obtain ⟨hx, hb, hr, hml, hown, hts, hlk, hex, hG, hLow, hst, h0, rfl, rfl, rfl, rfl, rfl, rfl, rfl, hnm⟩ := hC
  intro H locs lsA hR hS hl
  exact lv_icmp_le hx hb dg ht (fun h => kt (by first | exact h | (simpa using h)) H locs lsA hR hS hl) (fun h => kf (by first | exact h | (simpa using h)) H locs lsA hR hS hl)

theorem J_icmp_gt {G : Gt} {γ : Γt} {own : String} {cc : ByteArray} {ret : Option FieldType} {M : Mm} {pc : Nat} {ls : List (Option Value)} {st : List Value} {k n d mc ms : Nat} {Qr : Option Value → Mm → Prop} {Qx : String → Mm → Prop} {lh : Launch} {nL : Nat} {nm : String} {x y : Int32} {off : Int} {tgt : Nat} (hC : Cok G γ own cc ret d mc ms Qr Qx lh nL nm) (dg : decode cc pc = .ok (.if_icmp .gt off, 3)) (ht : (pc : Int) + off = (tgt : Int)) (kt : y < x → J G γ M tgt ls st k n) (kf : ¬ (y < x) → J G γ M (pc + 3) ls st k n) : J G γ M pc ls (.int y :: .int x :: st) k n := by
  obtain ⟨p, l, e, R, s, m, args, below, meth, c, Qr1, Qx1, mc1, ms1, nL1⟩ := γ
  obtain ⟨hx, hb, hr, hml, hown, hts, hlk, hex, hG, hLow, hst, h0, rfl, rfl, rfl, rfl, rfl, rfl, rfl, hnm⟩ := hC
  intro H locs lsA hR hS hl
  exact lv_icmp_gt hx hb dg ht (fun h => kt (by first | exact h | (simpa using h)) H locs lsA hR hS hl) (fun h => kf (by first | exact h | (simpa using h)) H locs lsA hR hS hl)

theorem J_icmp_ge {G : Gt} {γ : Γt} {own : String} {cc : ByteArray} {ret : Option FieldType} {M : Mm} {pc : Nat} {ls : List (Option Value)} {st : List Value} {k n d mc ms : Nat} {Qr : Option Value → Mm → Prop} {Qx : String → Mm → Prop} {lh : Launch} {nL : Nat} {nm : String} {x y : Int32} {off : Int} {tgt : Nat} (hC : Cok G γ own cc ret d mc ms Qr Qx lh nL nm) (dg : decode cc pc = .ok (.if_icmp .ge off, 3)) (ht : (pc : Int) + off = (tgt : Int)) (kt : y ≤ x → J G γ M tgt ls st k n) (kf : ¬ (y ≤ x) → J G γ M (pc + 3) ls st k n) : J G γ M pc ls (.int y :: .int x :: st) k n := by
  obtain ⟨p, l, e, R, s, m, args, below, meth, c, Qr1, Qx1, mc1, ms1, nL1⟩ := γ
  obtain ⟨hx, hb, hr, hml, hown, hts, hlk, hex, hG, hLow, hst, h0, rfl, rfl, rfl, rfl, rfl, rfl, rfl, hnm⟩ := hC
  intro H locs lsA hR hS hl
  exact lv_icmp_ge hx hb dg ht (fun h => kt (by first | exact h | (simpa using h)) H locs lsA hR hS hl) (fun h => kf (by first | exact h | (simpa using h)) H locs lsA hR hS hl)

theorem J_goto {G : Gt} {γ : Γt} {own : String} {cc : ByteArray} {ret : Option FieldType} {M : Mm} {pc : Nat} {ls : List (Option Value)} {st : List Value} {k n d mc ms : Nat} {Qr : Option Value → Mm → Prop} {Qx : String → Mm → Prop} {lh : Launch} {nL : Nat} {nm : String} {off : Int} {tgt : Nat} (hC : Cok G γ own cc ret d mc ms Qr Qx lh nL nm) (dg : decode cc pc = .ok (.goto off, 3)) (ht : (pc : Int) + off = (tgt : Int)) (kk : J G γ M tgt ls st k n) : J G γ M pc ls (st) k n := by
  obtain ⟨p, l, e, R, s, m, args, below, meth, c, Qr1, Qx1, mc1, ms1, nL1⟩ := γ
  obtain ⟨hx, hb, hr, hml, hown, hts, hlk, hex, hG, hLow, hst, h0, rfl, rfl, rfl, rfl, rfl, rfl, rfl, hnm⟩ := hC
  intro H locs lsA hR hS hl
  exact lv_goto hx hb dg ht (kk H locs lsA hR hS hl)

theorem J_ifnull {G : Gt} {γ : Γt} {own : String} {cc : ByteArray} {ret : Option FieldType} {M : Mm} {pc : Nat} {ls : List (Option Value)} {st : List Value} {k n d mc ms : Nat} {Qr : Option Value → Mm → Prop} {Qx : String → Mm → Prop} {lh : Launch} {nL : Nat} {nm : String} {a : Nat} {off : Int} {tgt : Nat} (hC : Cok G γ own cc ret d mc ms Qr Qx lh nL nm) (dg : decode cc pc = .ok (.ifnull off, 3)) (ht : (pc : Int) + off = (tgt : Int)) (kt : a = 0 → J G γ M tgt ls st k n) (kf : a ≠ 0 → J G γ M (pc + 3) ls st k n) : J G γ M pc ls (rv a :: st) k n := by
  obtain ⟨p, l, e, R, s, m, args, below, meth, c, Qr1, Qx1, mc1, ms1, nL1⟩ := γ
  obtain ⟨hx, hb, hr, hml, hown, hts, hlk, hex, hG, hLow, hst, h0, rfl, rfl, rfl, rfl, rfl, rfl, rfl, hnm⟩ := hC
  intro H locs lsA hR hS hl
  by_cases ha : a = 0
  · have k1 := kt ha H locs lsA hR hS hl
    subst ha; exact lv_ifnullN hx hb dg ht k1
  · rw [rv_pos ha]; exact lv_ifnull hx hb dg (kf ha H locs lsA hR hS hl)

theorem J_ifnonnull {G : Gt} {γ : Γt} {own : String} {cc : ByteArray} {ret : Option FieldType} {M : Mm} {pc : Nat} {ls : List (Option Value)} {st : List Value} {k n d mc ms : Nat} {Qr : Option Value → Mm → Prop} {Qx : String → Mm → Prop} {lh : Launch} {nL : Nat} {nm : String} {a : Nat} {off : Int} {tgt : Nat} (hC : Cok G γ own cc ret d mc ms Qr Qx lh nL nm) (dg : decode cc pc = .ok (.ifnonnull off, 3)) (ht : (pc : Int) + off = (tgt : Int)) (kt : a ≠ 0 → J G γ M tgt ls st k n) (kf : a = 0 → J G γ M (pc + 3) ls st k n) : J G γ M pc ls (rv a :: st) k n := by
  obtain ⟨p, l, e, R, s, m, args, below, meth, c, Qr1, Qx1, mc1, ms1, nL1⟩ := γ
  obtain ⟨hx, hb, hr, hml, hown, hts, hlk, hex, hG, hLow, hst, h0, rfl, rfl, rfl, rfl, rfl, rfl, rfl, hnm⟩ := hC
  intro H locs lsA hR hS hl
  by_cases ha : a = 0
  · have k1 := kf ha H locs lsA hR hS hl
    subst ha; exact lv_ifnonnullN hx hb dg k1
  · rw [rv_pos ha]; exact lv_ifnonnull hx hb dg ht (kt ha H locs lsA hR hS hl)

theorem J_lookup {G : Gt} {γ : Γt} {own : String} {cc : ByteArray} {ret : Option FieldType} {M : Mm} {pc : Nat} {ls : List (Option Value)} {st : List Value} {k n d mc ms : Nat} {Qr : Option Value → Mm → Prop} {Qx : String → Mm → Prop} {lh : Launch} {nL : Nat} {nm : String} {dflt : Int} {ps : Array (Int × Int)} {len : Nat} {x : Int32} {off : Int} {tgt : Nat} (hC : Cok G γ own cc ret d mc ms Qr Qx lh nL nm) (dg : decode cc pc = .ok (.lookupswitch dflt ps, len)) (hp : (ps.toList.zip (ps.toList.drop 1)).all (fun (a, next) => a.1 < next.1) = true) (ho : Op.lookupswitch.offset ps.toList dflt x.toInt = off) (ht : (pc : Int) + off = (tgt : Int)) (kk : J G γ M tgt ls st k n) : J G γ M pc ls (.int x :: st) k n := by
  obtain ⟨p, l, e, R, s, m, args, below, meth, c, Qr1, Qx1, mc1, ms1, nL1⟩ := γ
  obtain ⟨hx, hb, hr, hml, hown, hts, hlk, hex, hG, hLow, hst, h0, rfl, rfl, rfl, rfl, rfl, rfl, rfl, hnm⟩ := hC
  intro H locs lsA hR hS hl
  exact lv_lookup hx hb dg hp ho ht (kk H locs lsA hR hS hl)

theorem J_sub {G : Gt} {γ : Γt} {own : String} {cc : ByteArray} {ret : Option FieldType} {M : Mm} {pc : Nat} {ls : List (Option Value)} {st : List Value} {k n d mc ms : Nat} {Qr : Option Value → Mm → Prop} {Qx : String → Mm → Prop} {lh : Launch} {nL : Nat} {nm : String} {ls1 : List (Option Value)} (hC : Cok G γ own cc ret d mc ms Qr Qx lh nL nm) (hs : lsSub ls1 ls) (kk : J G γ M pc ls1 st k n) : J G γ M pc ls (st) k n := by
  obtain ⟨p, l, e, R, s, m, args, below, meth, c, Qr1, Qx1, mc1, ms1, nL1⟩ := γ
  obtain ⟨hx, hb, hr, hml, hown, hts, hlk, hex, hG, hLow, hst, h0, rfl, rfl, rfl, rfl, rfl, rfl, rfl, hnm⟩ := hC
  intro H locs lsA hR hS hl
  exact kk H locs lsA hR hS (hl.sub hs)

theorem J_wide {G : Gt} {γ : Γt} {own : String} {cc : ByteArray} {ret : Option FieldType} {M : Mm} {pc : Nat} {ls : List (Option Value)} {st : List Value} {k n d mc ms : Nat} {Qr : Option Value → Mm → Prop} {Qx : String → Mm → Prop} {lh : Launch} {nL : Nat} {nm : String} {k1 n1 : Nat} (hC : Cok G γ own cc ret d mc ms Qr Qx lh nL nm) (hk : k ≤ k1) (hn : n ≤ n1) (kk : J G γ M pc ls st k1 n1) : J G γ M pc ls (st) k n := by
  obtain ⟨p, l, e, R, s, m, args, below, meth, c, Qr1, Qx1, mc1, ms1, nL1⟩ := γ
  obtain ⟨hx, hb, hr, hml, hown, hts, hlk, hex, hG, hLow, hst, h0, rfl, rfl, rfl, rfl, rfl, rfl, rfl, hnm⟩ := hC
  intro H locs lsA hR hS hl
  exact W.widen hk hn (kk H locs lsA hR hS hl)

/-- the memory is named anew: the same cells, other names -/
theorem J_same {G : Gt} {γ : Γt} {own : String} {cc : ByteArray} {ret : Option FieldType} {M : Mm} {pc : Nat} {ls : List (Option Value)} {st : List Value} {k n d mc ms : Nat} {Qr : Option Value → Mm → Prop} {Qx : String → Mm → Prop} {lh : Launch} {nL : Nat} {nm : String} {M1 : Mm} (hM : M = M1) (kk : J G γ M1 pc ls st k n) : J G γ M pc ls st k n := by
  subst hM; exact kk
end
