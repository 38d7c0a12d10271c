/-! the law's links -/
theorem lc_L_8 : Cond.classLink RL 8 RX4 ∈ AW := AW_in (List.mem_of_getElem? (i := 84) (by decide +kernel)) (by decide +kernel)
theorem le_L_13 : Cond.classLink RL 13 eIS ∈ AW := AW_in (List.mem_of_getElem? (i := 244) (by decide +kernel)) (by decide +kernel)
theorem le_L_19 : Cond.classLink RL 19 eIA ∈ AW := AW_in (List.mem_of_getElem? (i := 324) (by decide +kernel)) (by decide +kernel)
theorem le_L_25 : Cond.classLink RL 25 eIO ∈ AW := AW_in (List.mem_of_getElem? (i := 348) (by decide +kernel)) (by decide +kernel)
theorem le_L_33 : Cond.classLink RL 33 eUO ∈ AW := AW_in (List.mem_of_getElem? (i := 537) (by decide +kernel)) (by decide +kernel)
theorem le_L_61 : Cond.classLink RL 61 eNS ∈ AW := AW_in (List.mem_of_getElem? (i := 722) (by decide +kernel)) (by decide +kernel)
theorem le_L_145 : Cond.classLink RL 145 eAE ∈ AW := AW_in (List.mem_of_getElem? (i := 983) (by decide +kernel)) (by decide +kernel)
theorem lc_L_152 : Cond.classLink RL 152 RX5 ∈ AW := AW_in (List.mem_of_getElem? (i := 1015) (by decide +kernel)) (by decide +kernel)
abbrev hh_addKeeper : List (Nat × Nat × Nat × Nat) := [(0, 8, 11, 13)]
abbrev hh_pass : List (Nat × Nat × Nat × Nat) := [(0, 9, 12, 19)]
abbrev hh_register : List (Nat × Nat × Nat × Nat) := [(0, 10, 13, 25), (0, 10, 17, 19), (0, 10, 21, 13)]
abbrev hh_bringIn : List (Nat × Nat × Nat × Nat) := [(0, 10, 13, 25), (0, 10, 17, 19), (0, 10, 21, 13)]
abbrev hh_admit : List (Nat × Nat × Nat × Nat) := [(0, 9, 12, 25), (0, 9, 15, 33), (0, 9, 18, 13)]
abbrev hh_setOnRoad : List (Nat × Nat × Nat × Nat) := [(0, 17, 20, 25), (0, 17, 24, 33)]
abbrev hh_isOnRoad : List (Nat × Nat × Nat × Nat) := [(0, 17, 20, 25), (0, 17, 24, 19)]
abbrev hh_scrap : List (Nat × Nat × Nat × Nat) := [(0, 9, 12, 25), (0, 9, 15, 13)]
abbrev hh_kindOf : List (Nat × Nat × Nat × Nat) := [(0, 9, 12, 25)]
abbrev hh_sell : List (Nat × Nat × Nat × Nat) := [(0, 14, 17, 25), (0, 14, 21, 19), (0, 14, 25, 33), (0, 14, 29, 13)]
abbrev hh_buy : List (Nat × Nat × Nat × Nat) := [(0, 12, 15, 25), (0, 12, 19, 19), (0, 12, 23, 13)]
abbrev hh_withdraw : List (Nat × Nat × Nat × Nat) := [(0, 9, 12, 61), (0, 9, 15, 13)]
abbrev hh_stateOf : List (Nat × Nat × Nat × Nat) := [(0, 9, 12, 61)]
abbrev hh_partnerOf : List (Nat × Nat × Nat × Nat) := [(0, 9, 12, 61), (0, 9, 15, 13)]
abbrev hh_openNotices : List (Nat × Nat × Nat × Nat) := [(0, 9, 12, 25)]
abbrev hh_keeperOn : List (Nat × Nat × Nat × Nat) := [(0, 10, 13, 25), (0, 10, 17, 19), (0, 10, 21, 61)]
abbrev hh_keeperByGoing : List (Nat × Nat × Nat × Nat) := [(0, 10, 13, 25), (0, 10, 17, 19), (0, 10, 21, 61)]
abbrev hh_transfers : List (Nat × Nat × Nat × Nat) := [(0, 9, 12, 25)]
abbrev hh_transferDay : List (Nat × Nat × Nat × Nat) := [(0, 10, 13, 25)]
abbrev hh_keptBy : List (Nat × Nat × Nat × Nat) := [(0, 9, 12, 25)]
abbrev hh_addLien : List (Nat × Nat × Nat × Nat) := [(0, 12, 15, 25), (0, 12, 19, 19), (0, 12, 23, 13)]
abbrev hh_payLien : List (Nat × Nat × Nat × Nat) := [(0, 12, 15, 25), (0, 12, 19, 61), (0, 12, 23, 19)]
abbrev hh_lienOf : List (Nat × Nat × Nat × Nat) := [(0, 10, 13, 25), (0, 10, 17, 61)]
abbrev hh_isBlocked : List (Nat × Nat × Nat × Nat) := [(0, 16, 19, 25)]
abbrev hh_keepPlate : List (Nat × Nat × Nat × Nat) := [(0, 9, 12, 25), (0, 9, 15, 61), (0, 9, 18, 13)]
abbrev hh_putOn : List (Nat × Nat × Nat × Nat) := [(0, 10, 13, 61), (0, 10, 17, 25), (0, 10, 21, 33), (0, 10, 25, 13)]
abbrev hh_swapPlates : List (Nat × Nat × Nat × Nat) := [(0, 10, 13, 25), (0, 10, 17, 33), (0, 10, 21, 13)]
abbrev hh_plateState : List (Nat × Nat × Nat × Nat) := [(0, 9, 12, 61)]
abbrev hh_daysKept : List (Nat × Nat × Nat × Nat) := [(0, 9, 12, 61), (0, 9, 15, 13)]
abbrev hh_plateOn : List (Nat × Nat × Nat × Nat) := [(0, 10, 13, 25), (0, 10, 17, 19), (0, 10, 21, 61)]
abbrev hh_vehicleWith : List (Nat × Nat × Nat × Nat) := [(0, 10, 13, 61), (0, 10, 17, 19), (0, 10, 21, 13)]
abbrev hh_vehicleByVehicles : List (Nat × Nat × Nat × Nat) := [(0, 10, 13, 61), (0, 10, 17, 19), (0, 10, 21, 13)]
abbrev hh_due : List (Nat × Nat × Nat × Nat) := [(0, 10, 13, 25), (0, 10, 17, 19)]
abbrev hh_owes : List (Nat × Nat × Nat × Nat) := [(0, 9, 12, 25)]
abbrev hh_owesByDays : List (Nat × Nat × Nat × Nat) := [(0, 9, 12, 25)]
abbrev hh_pay : List (Nat × Nat × Nat × Nat) := [(0, 10, 13, 25), (0, 10, 17, 19)]
abbrev hh_mostOwing : List (Nat × Nat × Nat × Nat) := [(0, 8, 11, 61)]
abbrev hh_roadShare : List (Nat × Nat × Nat × Nat) := [(0, 8, 11, 145)]
abbrev hh_meanTransfers : List (Nat × Nat × Nat × Nat) := [(0, 7, 10, 145)]
theorem lv_L_7 : LkV RL 7 RX4 yX4_addKeeper cX4_addKeeper 1 (some .int) 0 := ⟨AW_in (List.mem_of_getElem? (i := 245) (by decide +kernel)) (by decide +kernel), AW_in (List.mem_of_getElem? (i := 246) (by decide +kernel)) (by decide +kernel), AW_in (List.mem_of_getElem? (i := 247) (by decide +kernel)) (by decide +kernel), it_X4, cw_X4_addKeeper, ⟨by decide +kernel, by decide +kernel, by decide +kernel, by decide +kernel⟩, by decide⟩
theorem lv_L_15 : LkV RL 15 RX4 yX4_pass cX4_pass 2 (some .int) 1 := ⟨AW_in (List.mem_of_getElem? (i := 325) (by decide +kernel)) (by decide +kernel), AW_in (List.mem_of_getElem? (i := 326) (by decide +kernel)) (by decide +kernel), AW_in (List.mem_of_getElem? (i := 327) (by decide +kernel)) (by decide +kernel), it_X4, cw_X4_pass, ⟨by decide +kernel, by decide +kernel, by decide +kernel, by decide +kernel⟩, by decide⟩
theorem lv_L_21 : LkV RL 21 RX4 yX4_register cX4_register 4 (some .int) 2 := ⟨AW_in (List.mem_of_getElem? (i := 372) (by decide +kernel)) (by decide +kernel), AW_in (List.mem_of_getElem? (i := 373) (by decide +kernel)) (by decide +kernel), AW_in (List.mem_of_getElem? (i := 374) (by decide +kernel)) (by decide +kernel), it_X4, cw_X4_register, ⟨by decide +kernel, by decide +kernel, by decide +kernel, by decide +kernel⟩, by decide⟩
theorem lv_L_27 : LkV RL 27 RX4 yX4_bringIn cX4_bringIn 3 (some .int) 2 := ⟨AW_in (List.mem_of_getElem? (i := 530) (by decide +kernel)) (by decide +kernel), AW_in (List.mem_of_getElem? (i := 531) (by decide +kernel)) (by decide +kernel), AW_in (List.mem_of_getElem? (i := 532) (by decide +kernel)) (by decide +kernel), it_X4, cw_X4_bringIn, ⟨by decide +kernel, by decide +kernel, by decide +kernel, by decide +kernel⟩, by decide⟩
theorem lv_L_30 : LkV RL 30 RX4 yX4_admit cX4_admit 3 (some .int) 1 := ⟨AW_in (List.mem_of_getElem? (i := 538) (by decide +kernel)) (by decide +kernel), AW_in (List.mem_of_getElem? (i := 539) (by decide +kernel)) (by decide +kernel), AW_in (List.mem_of_getElem? (i := 540) (by decide +kernel)) (by decide +kernel), it_X4, cw_X4_admit, ⟨by decide +kernel, by decide +kernel, by decide +kernel, by decide +kernel⟩, by decide⟩
theorem lv_L_35 : LkV RL 35 RX4 yX4_setOnRoad cX4_setOnRoad 5 (some .boolean) 2 := ⟨AW_in (List.mem_of_getElem? (i := 567) (by decide +kernel)) (by decide +kernel), AW_in (List.mem_of_getElem? (i := 568) (by decide +kernel)) (by decide +kernel), AW_in (List.mem_of_getElem? (i := 569) (by decide +kernel)) (by decide +kernel), it_X4, cw_X4_setOnRoad, ⟨by decide +kernel, by decide +kernel, by decide +kernel, by decide +kernel⟩, by decide⟩
theorem lv_L_39 : LkV RL 39 RX4 yX4_isOnRoad cX4_isOnRoad 4 (some .boolean) 2 := ⟨AW_in (List.mem_of_getElem? (i := 584) (by decide +kernel)) (by decide +kernel), AW_in (List.mem_of_getElem? (i := 585) (by decide +kernel)) (by decide +kernel), AW_in (List.mem_of_getElem? (i := 586) (by decide +kernel)) (by decide +kernel), it_X4, cw_X4_isOnRoad, ⟨by decide +kernel, by decide +kernel, by decide +kernel, by decide +kernel⟩, by decide⟩
theorem lv_L_43 : LkV RL 43 RX4 yX4_scrap cX4_scrap 4 (some .int) 1 := ⟨AW_in (List.mem_of_getElem? (i := 596) (by decide +kernel)) (by decide +kernel), AW_in (List.mem_of_getElem? (i := 597) (by decide +kernel)) (by decide +kernel), AW_in (List.mem_of_getElem? (i := 598) (by decide +kernel)) (by decide +kernel), it_X4, cw_X4_scrap, ⟨by decide +kernel, by decide +kernel, by decide +kernel, by decide +kernel⟩, by decide⟩
theorem lv_L_46 : LkV RL 46 RX4 yX4_kindOf cX4_kindOf 2 (some .char) 1 := ⟨AW_in (List.mem_of_getElem? (i := 628) (by decide +kernel)) (by decide +kernel), AW_in (List.mem_of_getElem? (i := 629) (by decide +kernel)) (by decide +kernel), AW_in (List.mem_of_getElem? (i := 630) (by decide +kernel)) (by decide +kernel), it_X4, cw_X4_kindOf, ⟨by decide +kernel, by decide +kernel, by decide +kernel, by decide +kernel⟩, by decide⟩
theorem lv_L_50 : LkV RL 50 RX4 yX4_sell cX4_sell 6 (some .int) 4 := ⟨AW_in (List.mem_of_getElem? (i := 635) (by decide +kernel)) (by decide +kernel), AW_in (List.mem_of_getElem? (i := 636) (by decide +kernel)) (by decide +kernel), AW_in (List.mem_of_getElem? (i := 637) (by decide +kernel)) (by decide +kernel), it_X4, cw_X4_sell, ⟨by decide +kernel, by decide +kernel, by decide +kernel, by decide +kernel⟩, by decide⟩
theorem lv_L_54 : LkV RL 54 RX4 yX4_buy cX4_buy 5 (some .int) 3 := ⟨AW_in (List.mem_of_getElem? (i := 715) (by decide +kernel)) (by decide +kernel), AW_in (List.mem_of_getElem? (i := 716) (by decide +kernel)) (by decide +kernel), AW_in (List.mem_of_getElem? (i := 717) (by decide +kernel)) (by decide +kernel), it_X4, cw_X4_buy, ⟨by decide +kernel, by decide +kernel, by decide +kernel, by decide +kernel⟩, by decide⟩
theorem lv_L_58 : LkV RL 58 RX4 yX4_withdraw cX4_withdraw 3 (some .int) 1 := ⟨AW_in (List.mem_of_getElem? (i := 723) (by decide +kernel)) (by decide +kernel), AW_in (List.mem_of_getElem? (i := 724) (by decide +kernel)) (by decide +kernel), AW_in (List.mem_of_getElem? (i := 725) (by decide +kernel)) (by decide +kernel), it_X4, cw_X4_withdraw, ⟨by decide +kernel, by decide +kernel, by decide +kernel, by decide +kernel⟩, by decide⟩
theorem lv_L_63 : LkV RL 63 RX4 yX4_stateOf cX4_stateOf 2 (some .char) 1 := ⟨AW_in (List.mem_of_getElem? (i := 755) (by decide +kernel)) (by decide +kernel), AW_in (List.mem_of_getElem? (i := 756) (by decide +kernel)) (by decide +kernel), AW_in (List.mem_of_getElem? (i := 757) (by decide +kernel)) (by decide +kernel), it_X4, cw_X4_stateOf, ⟨by decide +kernel, by decide +kernel, by decide +kernel, by decide +kernel⟩, by decide⟩
theorem lv_L_66 : LkV RL 66 RX4 yX4_partnerOf cX4_partnerOf 3 (some .int) 1 := ⟨AW_in (List.mem_of_getElem? (i := 762) (by decide +kernel)) (by decide +kernel), AW_in (List.mem_of_getElem? (i := 763) (by decide +kernel)) (by decide +kernel), AW_in (List.mem_of_getElem? (i := 764) (by decide +kernel)) (by decide +kernel), it_X4, cw_X4_partnerOf, ⟨by decide +kernel, by decide +kernel, by decide +kernel, by decide +kernel⟩, by decide⟩
theorem lv_L_69 : LkV RL 69 RX4 yX4_openNotices cX4_openNotices 8 (some .int) 1 := ⟨AW_in (List.mem_of_getElem? (i := 770) (by decide +kernel)) (by decide +kernel), AW_in (List.mem_of_getElem? (i := 771) (by decide +kernel)) (by decide +kernel), AW_in (List.mem_of_getElem? (i := 772) (by decide +kernel)) (by decide +kernel), it_X4, cw_X4_openNotices, ⟨by decide +kernel, by decide +kernel, by decide +kernel, by decide +kernel⟩, by decide⟩
theorem lv_L_72 : LkV RL 72 RX4 yX4_keeperOn cX4_keeperOn 4 (some .int) 2 := ⟨AW_in (List.mem_of_getElem? (i := 777) (by decide +kernel)) (by decide +kernel), AW_in (List.mem_of_getElem? (i := 778) (by decide +kernel)) (by decide +kernel), AW_in (List.mem_of_getElem? (i := 779) (by decide +kernel)) (by decide +kernel), it_X4, cw_X4_keeperOn, ⟨by decide +kernel, by decide +kernel, by decide +kernel, by decide +kernel⟩, by decide⟩
theorem lv_L_76 : LkV RL 76 RX4 yX4_keeperByGoing cX4_keeperByGoing 4 (some .int) 2 := ⟨AW_in (List.mem_of_getElem? (i := 788) (by decide +kernel)) (by decide +kernel), AW_in (List.mem_of_getElem? (i := 789) (by decide +kernel)) (by decide +kernel), AW_in (List.mem_of_getElem? (i := 790) (by decide +kernel)) (by decide +kernel), it_X4, cw_X4_keeperByGoing, ⟨by decide +kernel, by decide +kernel, by decide +kernel, by decide +kernel⟩, by decide⟩
theorem lv_L_79 : LkV RL 79 RX4 yX4_transfers cX4_transfers 2 (some .int) 1 := ⟨AW_in (List.mem_of_getElem? (i := 795) (by decide +kernel)) (by decide +kernel), AW_in (List.mem_of_getElem? (i := 796) (by decide +kernel)) (by decide +kernel), AW_in (List.mem_of_getElem? (i := 797) (by decide +kernel)) (by decide +kernel), it_X4, cw_X4_transfers, ⟨by decide +kernel, by decide +kernel, by decide +kernel, by decide +kernel⟩, by decide⟩
theorem lv_L_82 : LkV RL 82 RX4 yX4_transferDay cX4_transferDay 4 (some .int) 2 := ⟨AW_in (List.mem_of_getElem? (i := 802) (by decide +kernel)) (by decide +kernel), AW_in (List.mem_of_getElem? (i := 803) (by decide +kernel)) (by decide +kernel), AW_in (List.mem_of_getElem? (i := 804) (by decide +kernel)) (by decide +kernel), it_X4, cw_X4_transferDay, ⟨by decide +kernel, by decide +kernel, by decide +kernel, by decide +kernel⟩, by decide⟩
theorem lv_L_85 : LkV RL 85 RX4 yX4_keptBy cX4_keptBy 7 (some .int) 1 := ⟨AW_in (List.mem_of_getElem? (i := 811) (by decide +kernel)) (by decide +kernel), AW_in (List.mem_of_getElem? (i := 812) (by decide +kernel)) (by decide +kernel), AW_in (List.mem_of_getElem? (i := 813) (by decide +kernel)) (by decide +kernel), it_X4, cw_X4_keptBy, ⟨by decide +kernel, by decide +kernel, by decide +kernel, by decide +kernel⟩, by decide⟩
theorem lv_L_88 : LkV RL 88 RX4 yX4_addLien cX4_addLien 5 (some .int) 3 := ⟨AW_in (List.mem_of_getElem? (i := 818) (by decide +kernel)) (by decide +kernel), AW_in (List.mem_of_getElem? (i := 819) (by decide +kernel)) (by decide +kernel), AW_in (List.mem_of_getElem? (i := 820) (by decide +kernel)) (by decide +kernel), it_X4, cw_X4_addLien, ⟨by decide +kernel, by decide +kernel, by decide +kernel, by decide +kernel⟩, by decide⟩
theorem lv_L_92 : LkV RL 92 RX4 yX4_payLien cX4_payLien 6 (some .int) 3 := ⟨AW_in (List.mem_of_getElem? (i := 834) (by decide +kernel)) (by decide +kernel), AW_in (List.mem_of_getElem? (i := 835) (by decide +kernel)) (by decide +kernel), AW_in (List.mem_of_getElem? (i := 836) (by decide +kernel)) (by decide +kernel), it_X4, cw_X4_payLien, ⟨by decide +kernel, by decide +kernel, by decide +kernel, by decide +kernel⟩, by decide⟩
theorem lv_L_95 : LkV RL 95 RX4 yX4_lienOf cX4_lienOf 3 (some .int) 2 := ⟨AW_in (List.mem_of_getElem? (i := 846) (by decide +kernel)) (by decide +kernel), AW_in (List.mem_of_getElem? (i := 847) (by decide +kernel)) (by decide +kernel), AW_in (List.mem_of_getElem? (i := 848) (by decide +kernel)) (by decide +kernel), it_X4, cw_X4_lienOf, ⟨by decide +kernel, by decide +kernel, by decide +kernel, by decide +kernel⟩, by decide⟩
theorem lv_L_98 : LkV RL 98 RX4 yX4_isBlocked cX4_isBlocked 2 (some .boolean) 1 := ⟨AW_in (List.mem_of_getElem? (i := 853) (by decide +kernel)) (by decide +kernel), AW_in (List.mem_of_getElem? (i := 854) (by decide +kernel)) (by decide +kernel), AW_in (List.mem_of_getElem? (i := 855) (by decide +kernel)) (by decide +kernel), it_X4, cw_X4_isBlocked, ⟨by decide +kernel, by decide +kernel, by decide +kernel, by decide +kernel⟩, by decide⟩
theorem lv_L_102 : LkV RL 102 RX4 yX4_keepPlate cX4_keepPlate 5 (some .int) 1 := ⟨AW_in (List.mem_of_getElem? (i := 860) (by decide +kernel)) (by decide +kernel), AW_in (List.mem_of_getElem? (i := 861) (by decide +kernel)) (by decide +kernel), AW_in (List.mem_of_getElem? (i := 862) (by decide +kernel)) (by decide +kernel), it_X4, cw_X4_keepPlate, ⟨by decide +kernel, by decide +kernel, by decide +kernel, by decide +kernel⟩, by decide⟩
theorem lv_L_105 : LkV RL 105 RX4 yX4_putOn cX4_putOn 6 (some .int) 2 := ⟨AW_in (List.mem_of_getElem? (i := 872) (by decide +kernel)) (by decide +kernel), AW_in (List.mem_of_getElem? (i := 873) (by decide +kernel)) (by decide +kernel), AW_in (List.mem_of_getElem? (i := 874) (by decide +kernel)) (by decide +kernel), it_X4, cw_X4_putOn, ⟨by decide +kernel, by decide +kernel, by decide +kernel, by decide +kernel⟩, by decide⟩
theorem lv_L_108 : LkV RL 108 RX4 yX4_swapPlates cX4_swapPlates 7 (some .int) 2 := ⟨AW_in (List.mem_of_getElem? (i := 898) (by decide +kernel)) (by decide +kernel), AW_in (List.mem_of_getElem? (i := 899) (by decide +kernel)) (by decide +kernel), AW_in (List.mem_of_getElem? (i := 900) (by decide +kernel)) (by decide +kernel), it_X4, cw_X4_swapPlates, ⟨by decide +kernel, by decide +kernel, by decide +kernel, by decide +kernel⟩, by decide⟩
theorem lv_L_111 : LkV RL 111 RX4 yX4_plateState cX4_plateState 3 (some .char) 1 := ⟨AW_in (List.mem_of_getElem? (i := 906) (by decide +kernel)) (by decide +kernel), AW_in (List.mem_of_getElem? (i := 907) (by decide +kernel)) (by decide +kernel), AW_in (List.mem_of_getElem? (i := 908) (by decide +kernel)) (by decide +kernel), it_X4, cw_X4_plateState, ⟨by decide +kernel, by decide +kernel, by decide +kernel, by decide +kernel⟩, by decide⟩
theorem lv_L_114 : LkV RL 114 RX4 yX4_daysKept cX4_daysKept 3 (some .int) 1 := ⟨AW_in (List.mem_of_getElem? (i := 913) (by decide +kernel)) (by decide +kernel), AW_in (List.mem_of_getElem? (i := 914) (by decide +kernel)) (by decide +kernel), AW_in (List.mem_of_getElem? (i := 915) (by decide +kernel)) (by decide +kernel), it_X4, cw_X4_daysKept, ⟨by decide +kernel, by decide +kernel, by decide +kernel, by decide +kernel⟩, by decide⟩
theorem lv_L_117 : LkV RL 117 RX4 yX4_plateOn cX4_plateOn 4 (some .int) 2 := ⟨AW_in (List.mem_of_getElem? (i := 922) (by decide +kernel)) (by decide +kernel), AW_in (List.mem_of_getElem? (i := 923) (by decide +kernel)) (by decide +kernel), AW_in (List.mem_of_getElem? (i := 924) (by decide +kernel)) (by decide +kernel), it_X4, cw_X4_plateOn, ⟨by decide +kernel, by decide +kernel, by decide +kernel, by decide +kernel⟩, by decide⟩
theorem lv_L_120 : LkV RL 120 RX4 yX4_vehicleWith cX4_vehicleWith 4 (some .int) 2 := ⟨AW_in (List.mem_of_getElem? (i := 929) (by decide +kernel)) (by decide +kernel), AW_in (List.mem_of_getElem? (i := 930) (by decide +kernel)) (by decide +kernel), AW_in (List.mem_of_getElem? (i := 931) (by decide +kernel)) (by decide +kernel), it_X4, cw_X4_vehicleWith, ⟨by decide +kernel, by decide +kernel, by decide +kernel, by decide +kernel⟩, by decide⟩
theorem lv_L_123 : LkV RL 123 RX4 yX4_vehicleByVehicles cX4_vehicleByVehicles 4 (some .int) 2 := ⟨AW_in (List.mem_of_getElem? (i := 940) (by decide +kernel)) (by decide +kernel), AW_in (List.mem_of_getElem? (i := 941) (by decide +kernel)) (by decide +kernel), AW_in (List.mem_of_getElem? (i := 942) (by decide +kernel)) (by decide +kernel), it_X4, cw_X4_vehicleByVehicles, ⟨by decide +kernel, by decide +kernel, by decide +kernel, by decide +kernel⟩, by decide⟩
theorem lv_L_126 : LkV RL 126 RX4 yX4_due cX4_due 4 (some .int) 2 := ⟨AW_in (List.mem_of_getElem? (i := 947) (by decide +kernel)) (by decide +kernel), AW_in (List.mem_of_getElem? (i := 948) (by decide +kernel)) (by decide +kernel), AW_in (List.mem_of_getElem? (i := 949) (by decide +kernel)) (by decide +kernel), it_X4, cw_X4_due, ⟨by decide +kernel, by decide +kernel, by decide +kernel, by decide +kernel⟩, by decide⟩
theorem lv_L_129 : LkV RL 129 RX4 yX4_owes cX4_owes 2 (some .int) 1 := ⟨AW_in (List.mem_of_getElem? (i := 955) (by decide +kernel)) (by decide +kernel), AW_in (List.mem_of_getElem? (i := 956) (by decide +kernel)) (by decide +kernel), AW_in (List.mem_of_getElem? (i := 957) (by decide +kernel)) (by decide +kernel), it_X4, cw_X4_owes, ⟨by decide +kernel, by decide +kernel, by decide +kernel, by decide +kernel⟩, by decide⟩
theorem lv_L_132 : LkV RL 132 RX4 yX4_owesByDays cX4_owesByDays 2 (some .int) 1 := ⟨AW_in (List.mem_of_getElem? (i := 962) (by decide +kernel)) (by decide +kernel), AW_in (List.mem_of_getElem? (i := 963) (by decide +kernel)) (by decide +kernel), AW_in (List.mem_of_getElem? (i := 964) (by decide +kernel)) (by decide +kernel), it_X4, cw_X4_owesByDays, ⟨by decide +kernel, by decide +kernel, by decide +kernel, by decide +kernel⟩, by decide⟩
theorem lv_L_135 : LkV RL 135 RX4 yX4_pay cX4_pay 3 (some .int) 2 := ⟨AW_in (List.mem_of_getElem? (i := 969) (by decide +kernel)) (by decide +kernel), AW_in (List.mem_of_getElem? (i := 970) (by decide +kernel)) (by decide +kernel), AW_in (List.mem_of_getElem? (i := 971) (by decide +kernel)) (by decide +kernel), it_X4, cw_X4_pay, ⟨by decide +kernel, by decide +kernel, by decide +kernel, by decide +kernel⟩, by decide⟩
theorem lv_L_138 : LkV RL 138 RX4 yX4_mostOwing cX4_mostOwing 4 (some .int) 0 := ⟨AW_in (List.mem_of_getElem? (i := 976) (by decide +kernel)) (by decide +kernel), AW_in (List.mem_of_getElem? (i := 977) (by decide +kernel)) (by decide +kernel), AW_in (List.mem_of_getElem? (i := 978) (by decide +kernel)) (by decide +kernel), it_X4, cw_X4_mostOwing, ⟨by decide +kernel, by decide +kernel, by decide +kernel, by decide +kernel⟩, by decide⟩
theorem lv_L_141 : LkV RL 141 RX4 yX4_roadShare cX4_roadShare 6 (some .float) 0 := ⟨AW_in (List.mem_of_getElem? (i := 997) (by decide +kernel)) (by decide +kernel), AW_in (List.mem_of_getElem? (i := 998) (by decide +kernel)) (by decide +kernel), AW_in (List.mem_of_getElem? (i := 999) (by decide +kernel)) (by decide +kernel), it_X4, cw_X4_roadShare, ⟨by decide +kernel, by decide +kernel, by decide +kernel, by decide +kernel⟩, by decide⟩
theorem lv_L_147 : LkV RL 147 RX4 yX4_meanTransfers cX4_meanTransfers 6 (some .double) 0 := ⟨AW_in (List.mem_of_getElem? (i := 1011) (by decide +kernel)) (by decide +kernel), AW_in (List.mem_of_getElem? (i := 1012) (by decide +kernel)) (by decide +kernel), AW_in (List.mem_of_getElem? (i := 1013) (by decide +kernel)) (by decide +kernel), it_X4, cw_X4_meanTransfers, ⟨by decide +kernel, by decide +kernel, by decide +kernel, by decide +kernel⟩, by decide⟩
theorem li_L_151 : LkI RL 151 yX4_init cX4_init 1 0 := ⟨AW_in (List.mem_of_getElem? (i := 86) (by decide +kernel)) (by decide +kernel), AW_in (List.mem_of_getElem? (i := 87) (by decide +kernel)) (by decide +kernel), it_X4, cw_X4_init, ⟨by decide +kernel, by decide +kernel, by decide +kernel⟩, rfl, by decide⟩
theorem li_L_154 : LkI RL 154 yX5_init cX5_init 1 0 := ⟨AW_in (List.mem_of_getElem? (i := 1017) (by decide +kernel)) (by decide +kernel), AW_in (List.mem_of_getElem? (i := 1018) (by decide +kernel)) (by decide +kernel), it_X5, cw_X5_init, ⟨by decide +kernel, by decide +kernel, by decide +kernel⟩, rfl, by decide⟩
theorem lh_L_155 : LkH 155 yL_addKeeper cL_addKeeper 3 hh_addKeeper 2 := ⟨AW_in (List.mem_of_getElem? (i := 241) (by decide +kernel)) (by decide +kernel), AW_in (List.mem_of_getElem? (i := 242) (by decide +kernel)) (by decide +kernel), it_L, AW_in (List.mem_of_getElem? (i := 243) (by decide +kernel)) (by decide +kernel), ⟨by decide +kernel, by decide +kernel, by decide +kernel, by decide +kernel⟩, by decide⟩
theorem lv_L_160 : LkV RL 160 RX5 yX5_addKeeper cX5_addKeeper 1 (some .int) 0 := ⟨AW_in (List.mem_of_getElem? (i := 1126) (by decide +kernel)) (by decide +kernel), AW_in (List.mem_of_getElem? (i := 1127) (by decide +kernel)) (by decide +kernel), AW_in (List.mem_of_getElem? (i := 1128) (by decide +kernel)) (by decide +kernel), it_X5, cw_X5_addKeeper, ⟨by decide +kernel, by decide +kernel, by decide +kernel, by decide +kernel⟩, by decide⟩
theorem lv_L_161 : LkV RL 161 RX5 yX5_thrown cX5_thrown 1 (some .int) 0 := ⟨AW_in (List.mem_of_getElem? (i := 1122) (by decide +kernel)) (by decide +kernel), AW_in (List.mem_of_getElem? (i := 1123) (by decide +kernel)) (by decide +kernel), AW_in (List.mem_of_getElem? (i := 1124) (by decide +kernel)) (by decide +kernel), it_X5, cw_X5_thrown, ⟨by decide +kernel, by decide +kernel, by decide +kernel, by decide +kernel⟩, by decide⟩
theorem lh_L_164 : LkH 164 yL_pass cL_pass 4 hh_pass 3 := ⟨AW_in (List.mem_of_getElem? (i := 321) (by decide +kernel)) (by decide +kernel), AW_in (List.mem_of_getElem? (i := 322) (by decide +kernel)) (by decide +kernel), it_L, AW_in (List.mem_of_getElem? (i := 323) (by decide +kernel)) (by decide +kernel), ⟨by decide +kernel, by decide +kernel, by decide +kernel, by decide +kernel⟩, by decide⟩
theorem lv_L_167 : LkV RL 167 RX5 yX5_pass cX5_pass 2 (some .int) 1 := ⟨AW_in (List.mem_of_getElem? (i := 1134) (by decide +kernel)) (by decide +kernel), AW_in (List.mem_of_getElem? (i := 1135) (by decide +kernel)) (by decide +kernel), AW_in (List.mem_of_getElem? (i := 1136) (by decide +kernel)) (by decide +kernel), it_X5, cw_X5_pass, ⟨by decide +kernel, by decide +kernel, by decide +kernel, by decide +kernel⟩, by decide⟩
theorem lv_L_168 : LkV RL 168 RX4 yX4_day cX4_day 1 (some .int) 0 := ⟨AW_in (List.mem_of_getElem? (i := 136) (by decide +kernel)) (by decide +kernel), AW_in (List.mem_of_getElem? (i := 137) (by decide +kernel)) (by decide +kernel), AW_in (List.mem_of_getElem? (i := 138) (by decide +kernel)) (by decide +kernel), it_X4, cw_X4_day, ⟨by decide +kernel, by decide +kernel, by decide +kernel, by decide +kernel⟩, by decide⟩
theorem lv_L_171 : LkV RL 171 RX5 yX5_day cX5_day 1 (some .int) 0 := ⟨AW_in (List.mem_of_getElem? (i := 1141) (by decide +kernel)) (by decide +kernel), AW_in (List.mem_of_getElem? (i := 1142) (by decide +kernel)) (by decide +kernel), AW_in (List.mem_of_getElem? (i := 1143) (by decide +kernel)) (by decide +kernel), it_X5, cw_X5_day, ⟨by decide +kernel, by decide +kernel, by decide +kernel, by decide +kernel⟩, by decide⟩
theorem lh_L_172 : LkH 172 yL_register cL_register 5 hh_register 4 := ⟨AW_in (List.mem_of_getElem? (i := 345) (by decide +kernel)) (by decide +kernel), AW_in (List.mem_of_getElem? (i := 346) (by decide +kernel)) (by decide +kernel), it_L, AW_in (List.mem_of_getElem? (i := 347) (by decide +kernel)) (by decide +kernel), ⟨by decide +kernel, by decide +kernel, by decide +kernel, by decide +kernel⟩, by decide⟩
theorem lv_L_175 : LkV RL 175 RX5 yX5_register cX5_register 3 (some .int) 2 := ⟨AW_in (List.mem_of_getElem? (i := 1145) (by decide +kernel)) (by decide +kernel), AW_in (List.mem_of_getElem? (i := 1146) (by decide +kernel)) (by decide +kernel), AW_in (List.mem_of_getElem? (i := 1147) (by decide +kernel)) (by decide +kernel), it_X5, cw_X5_register, ⟨by decide +kernel, by decide +kernel, by decide +kernel, by decide +kernel⟩, by decide⟩
theorem lh_L_176 : LkH 176 yL_bringIn cL_bringIn 5 hh_bringIn 4 := ⟨AW_in (List.mem_of_getElem? (i := 527) (by decide +kernel)) (by decide +kernel), AW_in (List.mem_of_getElem? (i := 528) (by decide +kernel)) (by decide +kernel), it_L, AW_in (List.mem_of_getElem? (i := 529) (by decide +kernel)) (by decide +kernel), ⟨by decide +kernel, by decide +kernel, by decide +kernel, by decide +kernel⟩, by decide⟩
theorem lv_L_178 : LkV RL 178 RX5 yX5_bringIn cX5_bringIn 3 (some .int) 2 := ⟨AW_in (List.mem_of_getElem? (i := 1176) (by decide +kernel)) (by decide +kernel), AW_in (List.mem_of_getElem? (i := 1177) (by decide +kernel)) (by decide +kernel), AW_in (List.mem_of_getElem? (i := 1178) (by decide +kernel)) (by decide +kernel), it_X5, cw_X5_bringIn, ⟨by decide +kernel, by decide +kernel, by decide +kernel, by decide +kernel⟩, by decide⟩
theorem lh_L_179 : LkH 179 yL_admit cL_admit 4 hh_admit 3 := ⟨AW_in (List.mem_of_getElem? (i := 534) (by decide +kernel)) (by decide +kernel), AW_in (List.mem_of_getElem? (i := 535) (by decide +kernel)) (by decide +kernel), it_L, AW_in (List.mem_of_getElem? (i := 536) (by decide +kernel)) (by decide +kernel), ⟨by decide +kernel, by decide +kernel, by decide +kernel, by decide +kernel⟩, by decide⟩
theorem lv_L_181 : LkV RL 181 RX5 yX5_admit cX5_admit 2 (some .int) 1 := ⟨AW_in (List.mem_of_getElem? (i := 1180) (by decide +kernel)) (by decide +kernel), AW_in (List.mem_of_getElem? (i := 1181) (by decide +kernel)) (by decide +kernel), AW_in (List.mem_of_getElem? (i := 1182) (by decide +kernel)) (by decide +kernel), it_X5, cw_X5_admit, ⟨by decide +kernel, by decide +kernel, by decide +kernel, by decide +kernel⟩, by decide⟩
theorem lh_L_182 : LkH 182 yL_setOnRoad cL_setOnRoad 5 hh_setOnRoad 4 := ⟨AW_in (List.mem_of_getElem? (i := 564) (by decide +kernel)) (by decide +kernel), AW_in (List.mem_of_getElem? (i := 565) (by decide +kernel)) (by decide +kernel), it_L, AW_in (List.mem_of_getElem? (i := 566) (by decide +kernel)) (by decide +kernel), ⟨by decide +kernel, by decide +kernel, by decide +kernel, by decide +kernel⟩, by decide⟩
theorem lv_L_185 : LkV RL 185 RX5 yX5_setOnRoad cX5_setOnRoad 4 (some .boolean) 2 := ⟨AW_in (List.mem_of_getElem? (i := 1188) (by decide +kernel)) (by decide +kernel), AW_in (List.mem_of_getElem? (i := 1189) (by decide +kernel)) (by decide +kernel), AW_in (List.mem_of_getElem? (i := 1190) (by decide +kernel)) (by decide +kernel), it_X5, cw_X5_setOnRoad, ⟨by decide +kernel, by decide +kernel, by decide +kernel, by decide +kernel⟩, by decide⟩
theorem lh_L_186 : LkH 186 yL_isOnRoad cL_isOnRoad 5 hh_isOnRoad 4 := ⟨AW_in (List.mem_of_getElem? (i := 581) (by decide +kernel)) (by decide +kernel), AW_in (List.mem_of_getElem? (i := 582) (by decide +kernel)) (by decide +kernel), it_L, AW_in (List.mem_of_getElem? (i := 583) (by decide +kernel)) (by decide +kernel), ⟨by decide +kernel, by decide +kernel, by decide +kernel, by decide +kernel⟩, by decide⟩
theorem lv_L_189 : LkV RL 189 RX5 yX5_isOnRoad cX5_isOnRoad 3 (some .boolean) 2 := ⟨AW_in (List.mem_of_getElem? (i := 1200) (by decide +kernel)) (by decide +kernel), AW_in (List.mem_of_getElem? (i := 1201) (by decide +kernel)) (by decide +kernel), AW_in (List.mem_of_getElem? (i := 1202) (by decide +kernel)) (by decide +kernel), it_X5, cw_X5_isOnRoad, ⟨by decide +kernel, by decide +kernel, by decide +kernel, by decide +kernel⟩, by decide⟩
theorem lh_L_190 : LkH 190 yL_scrap cL_scrap 4 hh_scrap 3 := ⟨AW_in (List.mem_of_getElem? (i := 593) (by decide +kernel)) (by decide +kernel), AW_in (List.mem_of_getElem? (i := 594) (by decide +kernel)) (by decide +kernel), it_L, AW_in (List.mem_of_getElem? (i := 595) (by decide +kernel)) (by decide +kernel), ⟨by decide +kernel, by decide +kernel, by decide +kernel, by decide +kernel⟩, by decide⟩
theorem lv_L_192 : LkV RL 192 RX5 yX5_scrap cX5_scrap 4 (some .int) 1 := ⟨AW_in (List.mem_of_getElem? (i := 1208) (by decide +kernel)) (by decide +kernel), AW_in (List.mem_of_getElem? (i := 1209) (by decide +kernel)) (by decide +kernel), AW_in (List.mem_of_getElem? (i := 1210) (by decide +kernel)) (by decide +kernel), it_X5, cw_X5_scrap, ⟨by decide +kernel, by decide +kernel, by decide +kernel, by decide +kernel⟩, by decide⟩
theorem lh_L_193 : LkH 193 yL_kindOf cL_kindOf 4 hh_kindOf 3 := ⟨AW_in (List.mem_of_getElem? (i := 625) (by decide +kernel)) (by decide +kernel), AW_in (List.mem_of_getElem? (i := 626) (by decide +kernel)) (by decide +kernel), it_L, AW_in (List.mem_of_getElem? (i := 627) (by decide +kernel)) (by decide +kernel), ⟨by decide +kernel, by decide +kernel, by decide +kernel, by decide +kernel⟩, by decide⟩
theorem lv_L_195 : LkV RL 195 RX5 yX5_kindOf cX5_kindOf 2 (some .char) 1 := ⟨AW_in (List.mem_of_getElem? (i := 1216) (by decide +kernel)) (by decide +kernel), AW_in (List.mem_of_getElem? (i := 1217) (by decide +kernel)) (by decide +kernel), AW_in (List.mem_of_getElem? (i := 1218) (by decide +kernel)) (by decide +kernel), it_X5, cw_X5_kindOf, ⟨by decide +kernel, by decide +kernel, by decide +kernel, by decide +kernel⟩, by decide⟩
theorem lv_L_196 : LkV RL 196 RX4 yX4_vehicles cX4_vehicles 1 (some .int) 0 := ⟨AW_in (List.mem_of_getElem? (i := 140) (by decide +kernel)) (by decide +kernel), AW_in (List.mem_of_getElem? (i := 141) (by decide +kernel)) (by decide +kernel), AW_in (List.mem_of_getElem? (i := 142) (by decide +kernel)) (by decide +kernel), it_X4, cw_X4_vehicles, ⟨by decide +kernel, by decide +kernel, by decide +kernel, by decide +kernel⟩, by decide⟩
theorem lv_L_199 : LkV RL 199 RX5 yX5_vehicles cX5_vehicles 1 (some .int) 0 := ⟨AW_in (List.mem_of_getElem? (i := 1220) (by decide +kernel)) (by decide +kernel), AW_in (List.mem_of_getElem? (i := 1221) (by decide +kernel)) (by decide +kernel), AW_in (List.mem_of_getElem? (i := 1222) (by decide +kernel)) (by decide +kernel), it_X5, cw_X5_vehicles, ⟨by decide +kernel, by decide +kernel, by decide +kernel, by decide +kernel⟩, by decide⟩
theorem lh_L_200 : LkH 200 yL_sell cL_sell 7 hh_sell 6 := ⟨AW_in (List.mem_of_getElem? (i := 632) (by decide +kernel)) (by decide +kernel), AW_in (List.mem_of_getElem? (i := 633) (by decide +kernel)) (by decide +kernel), it_L, AW_in (List.mem_of_getElem? (i := 634) (by decide +kernel)) (by decide +kernel), ⟨by decide +kernel, by decide +kernel, by decide +kernel, by decide +kernel⟩, by decide⟩
theorem lv_L_203 : LkV RL 203 RX5 yX5_sell cX5_sell 5 (some .int) 4 := ⟨AW_in (List.mem_of_getElem? (i := 1224) (by decide +kernel)) (by decide +kernel), AW_in (List.mem_of_getElem? (i := 1225) (by decide +kernel)) (by decide +kernel), AW_in (List.mem_of_getElem? (i := 1226) (by decide +kernel)) (by decide +kernel), it_X5, cw_X5_sell, ⟨by decide +kernel, by decide +kernel, by decide +kernel, by decide +kernel⟩, by decide⟩
theorem lh_L_204 : LkH 204 yL_buy cL_buy 6 hh_buy 5 := ⟨AW_in (List.mem_of_getElem? (i := 712) (by decide +kernel)) (by decide +kernel), AW_in (List.mem_of_getElem? (i := 713) (by decide +kernel)) (by decide +kernel), it_L, AW_in (List.mem_of_getElem? (i := 714) (by decide +kernel)) (by decide +kernel), ⟨by decide +kernel, by decide +kernel, by decide +kernel, by decide +kernel⟩, by decide⟩
theorem lv_L_207 : LkV RL 207 RX5 yX5_buy cX5_buy 4 (some .int) 3 := ⟨AW_in (List.mem_of_getElem? (i := 1256) (by decide +kernel)) (by decide +kernel), AW_in (List.mem_of_getElem? (i := 1257) (by decide +kernel)) (by decide +kernel), AW_in (List.mem_of_getElem? (i := 1258) (by decide +kernel)) (by decide +kernel), it_X5, cw_X5_buy, ⟨by decide +kernel, by decide +kernel, by decide +kernel, by decide +kernel⟩, by decide⟩
theorem lh_L_208 : LkH 208 yL_withdraw cL_withdraw 4 hh_withdraw 3 := ⟨AW_in (List.mem_of_getElem? (i := 719) (by decide +kernel)) (by decide +kernel), AW_in (List.mem_of_getElem? (i := 720) (by decide +kernel)) (by decide +kernel), it_L, AW_in (List.mem_of_getElem? (i := 721) (by decide +kernel)) (by decide +kernel), ⟨by decide +kernel, by decide +kernel, by decide +kernel, by decide +kernel⟩, by decide⟩
theorem lv_L_210 : LkV RL 210 RX5 yX5_withdraw cX5_withdraw 2 (some .int) 1 := ⟨AW_in (List.mem_of_getElem? (i := 1260) (by decide +kernel)) (by decide +kernel), AW_in (List.mem_of_getElem? (i := 1261) (by decide +kernel)) (by decide +kernel), AW_in (List.mem_of_getElem? (i := 1262) (by decide +kernel)) (by decide +kernel), it_X5, cw_X5_withdraw, ⟨by decide +kernel, by decide +kernel, by decide +kernel, by decide +kernel⟩, by decide⟩
theorem lh_L_211 : LkH 211 yL_stateOf cL_stateOf 4 hh_stateOf 3 := ⟨AW_in (List.mem_of_getElem? (i := 752) (by decide +kernel)) (by decide +kernel), AW_in (List.mem_of_getElem? (i := 753) (by decide +kernel)) (by decide +kernel), it_L, AW_in (List.mem_of_getElem? (i := 754) (by decide +kernel)) (by decide +kernel), ⟨by decide +kernel, by decide +kernel, by decide +kernel, by decide +kernel⟩, by decide⟩
theorem lv_L_213 : LkV RL 213 RX5 yX5_stateOf cX5_stateOf 2 (some .char) 1 := ⟨AW_in (List.mem_of_getElem? (i := 1272) (by decide +kernel)) (by decide +kernel), AW_in (List.mem_of_getElem? (i := 1273) (by decide +kernel)) (by decide +kernel), AW_in (List.mem_of_getElem? (i := 1274) (by decide +kernel)) (by decide +kernel), it_X5, cw_X5_stateOf, ⟨by decide +kernel, by decide +kernel, by decide +kernel, by decide +kernel⟩, by decide⟩
theorem lh_L_214 : LkH 214 yL_partnerOf cL_partnerOf 4 hh_partnerOf 3 := ⟨AW_in (List.mem_of_getElem? (i := 759) (by decide +kernel)) (by decide +kernel), AW_in (List.mem_of_getElem? (i := 760) (by decide +kernel)) (by decide +kernel), it_L, AW_in (List.mem_of_getElem? (i := 761) (by decide +kernel)) (by decide +kernel), ⟨by decide +kernel, by decide +kernel, by decide +kernel, by decide +kernel⟩, by decide⟩
theorem lv_L_216 : LkV RL 216 RX5 yX5_partnerOf cX5_partnerOf 2 (some .int) 1 := ⟨AW_in (List.mem_of_getElem? (i := 1276) (by decide +kernel)) (by decide +kernel), AW_in (List.mem_of_getElem? (i := 1277) (by decide +kernel)) (by decide +kernel), AW_in (List.mem_of_getElem? (i := 1278) (by decide +kernel)) (by decide +kernel), it_X5, cw_X5_partnerOf, ⟨by decide +kernel, by decide +kernel, by decide +kernel, by decide +kernel⟩, by decide⟩
theorem lh_L_217 : LkH 217 yL_openNotices cL_openNotices 4 hh_openNotices 3 := ⟨AW_in (List.mem_of_getElem? (i := 767) (by decide +kernel)) (by decide +kernel), AW_in (List.mem_of_getElem? (i := 768) (by decide +kernel)) (by decide +kernel), it_L, AW_in (List.mem_of_getElem? (i := 769) (by decide +kernel)) (by decide +kernel), ⟨by decide +kernel, by decide +kernel, by decide +kernel, by decide +kernel⟩, by decide⟩
theorem lv_L_219 : LkV RL 219 RX5 yX5_openNotices cX5_openNotices 2 (some .int) 1 := ⟨AW_in (List.mem_of_getElem? (i := 1280) (by decide +kernel)) (by decide +kernel), AW_in (List.mem_of_getElem? (i := 1281) (by decide +kernel)) (by decide +kernel), AW_in (List.mem_of_getElem? (i := 1282) (by decide +kernel)) (by decide +kernel), it_X5, cw_X5_openNotices, ⟨by decide +kernel, by decide +kernel, by decide +kernel, by decide +kernel⟩, by decide⟩
theorem lh_L_220 : LkH 220 yL_keeperOn cL_keeperOn 5 hh_keeperOn 4 := ⟨AW_in (List.mem_of_getElem? (i := 774) (by decide +kernel)) (by decide +kernel), AW_in (List.mem_of_getElem? (i := 775) (by decide +kernel)) (by decide +kernel), it_L, AW_in (List.mem_of_getElem? (i := 776) (by decide +kernel)) (by decide +kernel), ⟨by decide +kernel, by decide +kernel, by decide +kernel, by decide +kernel⟩, by decide⟩
theorem lv_L_222 : LkV RL 222 RX5 yX5_keeperOn cX5_keeperOn 4 (some .int) 2 := ⟨AW_in (List.mem_of_getElem? (i := 1288) (by decide +kernel)) (by decide +kernel), AW_in (List.mem_of_getElem? (i := 1289) (by decide +kernel)) (by decide +kernel), AW_in (List.mem_of_getElem? (i := 1290) (by decide +kernel)) (by decide +kernel), it_X5, cw_X5_keeperOn, ⟨by decide +kernel, by decide +kernel, by decide +kernel, by decide +kernel⟩, by decide⟩
theorem lh_L_223 : LkH 223 yL_keeperByGoing cL_keeperByGoing 5 hh_keeperByGoing 4 := ⟨AW_in (List.mem_of_getElem? (i := 785) (by decide +kernel)) (by decide +kernel), AW_in (List.mem_of_getElem? (i := 786) (by decide +kernel)) (by decide +kernel), it_L, AW_in (List.mem_of_getElem? (i := 787) (by decide +kernel)) (by decide +kernel), ⟨by decide +kernel, by decide +kernel, by decide +kernel, by decide +kernel⟩, by decide⟩
theorem lv_L_225 : LkV RL 225 RX5 yX5_keeperByGoing cX5_keeperByGoing 3 (some .int) 2 := ⟨AW_in (List.mem_of_getElem? (i := 1292) (by decide +kernel)) (by decide +kernel), AW_in (List.mem_of_getElem? (i := 1293) (by decide +kernel)) (by decide +kernel), AW_in (List.mem_of_getElem? (i := 1294) (by decide +kernel)) (by decide +kernel), it_X5, cw_X5_keeperByGoing, ⟨by decide +kernel, by decide +kernel, by decide +kernel, by decide +kernel⟩, by decide⟩
theorem lh_L_226 : LkH 226 yL_transfers cL_transfers 4 hh_transfers 3 := ⟨AW_in (List.mem_of_getElem? (i := 792) (by decide +kernel)) (by decide +kernel), AW_in (List.mem_of_getElem? (i := 793) (by decide +kernel)) (by decide +kernel), it_L, AW_in (List.mem_of_getElem? (i := 794) (by decide +kernel)) (by decide +kernel), ⟨by decide +kernel, by decide +kernel, by decide +kernel, by decide +kernel⟩, by decide⟩
theorem lv_L_228 : LkV RL 228 RX5 yX5_transfers cX5_transfers 2 (some .int) 1 := ⟨AW_in (List.mem_of_getElem? (i := 1297) (by decide +kernel)) (by decide +kernel), AW_in (List.mem_of_getElem? (i := 1298) (by decide +kernel)) (by decide +kernel), AW_in (List.mem_of_getElem? (i := 1299) (by decide +kernel)) (by decide +kernel), it_X5, cw_X5_transfers, ⟨by decide +kernel, by decide +kernel, by decide +kernel, by decide +kernel⟩, by decide⟩
theorem lh_L_229 : LkH 229 yL_transferDay cL_transferDay 5 hh_transferDay 4 := ⟨AW_in (List.mem_of_getElem? (i := 799) (by decide +kernel)) (by decide +kernel), AW_in (List.mem_of_getElem? (i := 800) (by decide +kernel)) (by decide +kernel), it_L, AW_in (List.mem_of_getElem? (i := 801) (by decide +kernel)) (by decide +kernel), ⟨by decide +kernel, by decide +kernel, by decide +kernel, by decide +kernel⟩, by decide⟩
theorem lv_L_231 : LkV RL 231 RX5 yX5_transferDay cX5_transferDay 5 (some .int) 2 := ⟨AW_in (List.mem_of_getElem? (i := 1305) (by decide +kernel)) (by decide +kernel), AW_in (List.mem_of_getElem? (i := 1306) (by decide +kernel)) (by decide +kernel), AW_in (List.mem_of_getElem? (i := 1307) (by decide +kernel)) (by decide +kernel), it_X5, cw_X5_transferDay, ⟨by decide +kernel, by decide +kernel, by decide +kernel, by decide +kernel⟩, by decide⟩
theorem lh_L_232 : LkH 232 yL_keptBy cL_keptBy 4 hh_keptBy 3 := ⟨AW_in (List.mem_of_getElem? (i := 808) (by decide +kernel)) (by decide +kernel), AW_in (List.mem_of_getElem? (i := 809) (by decide +kernel)) (by decide +kernel), it_L, AW_in (List.mem_of_getElem? (i := 810) (by decide +kernel)) (by decide +kernel), ⟨by decide +kernel, by decide +kernel, by decide +kernel, by decide +kernel⟩, by decide⟩
theorem lv_L_234 : LkV RL 234 RX5 yX5_keptBy cX5_keptBy 4 (some .int) 1 := ⟨AW_in (List.mem_of_getElem? (i := 1309) (by decide +kernel)) (by decide +kernel), AW_in (List.mem_of_getElem? (i := 1310) (by decide +kernel)) (by decide +kernel), AW_in (List.mem_of_getElem? (i := 1311) (by decide +kernel)) (by decide +kernel), it_X5, cw_X5_keptBy, ⟨by decide +kernel, by decide +kernel, by decide +kernel, by decide +kernel⟩, by decide⟩
theorem lh_L_235 : LkH 235 yL_addLien cL_addLien 6 hh_addLien 5 := ⟨AW_in (List.mem_of_getElem? (i := 815) (by decide +kernel)) (by decide +kernel), AW_in (List.mem_of_getElem? (i := 816) (by decide +kernel)) (by decide +kernel), it_L, AW_in (List.mem_of_getElem? (i := 817) (by decide +kernel)) (by decide +kernel), ⟨by decide +kernel, by decide +kernel, by decide +kernel, by decide +kernel⟩, by decide⟩
theorem lv_L_238 : LkV RL 238 RX5 yX5_addLien cX5_addLien 4 (some .int) 3 := ⟨AW_in (List.mem_of_getElem? (i := 1313) (by decide +kernel)) (by decide +kernel), AW_in (List.mem_of_getElem? (i := 1314) (by decide +kernel)) (by decide +kernel), AW_in (List.mem_of_getElem? (i := 1315) (by decide +kernel)) (by decide +kernel), it_X5, cw_X5_addLien, ⟨by decide +kernel, by decide +kernel, by decide +kernel, by decide +kernel⟩, by decide⟩
theorem lh_L_239 : LkH 239 yL_payLien cL_payLien 6 hh_payLien 5 := ⟨AW_in (List.mem_of_getElem? (i := 831) (by decide +kernel)) (by decide +kernel), AW_in (List.mem_of_getElem? (i := 832) (by decide +kernel)) (by decide +kernel), it_L, AW_in (List.mem_of_getElem? (i := 833) (by decide +kernel)) (by decide +kernel), ⟨by decide +kernel, by decide +kernel, by decide +kernel, by decide +kernel⟩, by decide⟩
theorem lv_L_241 : LkV RL 241 RX5 yX5_payLien cX5_payLien 5 (some .int) 3 := ⟨AW_in (List.mem_of_getElem? (i := 1317) (by decide +kernel)) (by decide +kernel), AW_in (List.mem_of_getElem? (i := 1318) (by decide +kernel)) (by decide +kernel), AW_in (List.mem_of_getElem? (i := 1319) (by decide +kernel)) (by decide +kernel), it_X5, cw_X5_payLien, ⟨by decide +kernel, by decide +kernel, by decide +kernel, by decide +kernel⟩, by decide⟩
theorem lh_L_242 : LkH 242 yL_lienOf cL_lienOf 5 hh_lienOf 4 := ⟨AW_in (List.mem_of_getElem? (i := 843) (by decide +kernel)) (by decide +kernel), AW_in (List.mem_of_getElem? (i := 844) (by decide +kernel)) (by decide +kernel), it_L, AW_in (List.mem_of_getElem? (i := 845) (by decide +kernel)) (by decide +kernel), ⟨by decide +kernel, by decide +kernel, by decide +kernel, by decide +kernel⟩, by decide⟩
theorem lv_L_244 : LkV RL 244 RX5 yX5_lienOf cX5_lienOf 4 (some .int) 2 := ⟨AW_in (List.mem_of_getElem? (i := 1325) (by decide +kernel)) (by decide +kernel), AW_in (List.mem_of_getElem? (i := 1326) (by decide +kernel)) (by decide +kernel), AW_in (List.mem_of_getElem? (i := 1327) (by decide +kernel)) (by decide +kernel), it_X5, cw_X5_lienOf, ⟨by decide +kernel, by decide +kernel, by decide +kernel, by decide +kernel⟩, by decide⟩
theorem lh_L_245 : LkH 245 yL_isBlocked cL_isBlocked 4 hh_isBlocked 3 := ⟨AW_in (List.mem_of_getElem? (i := 850) (by decide +kernel)) (by decide +kernel), AW_in (List.mem_of_getElem? (i := 851) (by decide +kernel)) (by decide +kernel), it_L, AW_in (List.mem_of_getElem? (i := 852) (by decide +kernel)) (by decide +kernel), ⟨by decide +kernel, by decide +kernel, by decide +kernel, by decide +kernel⟩, by decide⟩
theorem lv_L_247 : LkV RL 247 RX5 yX5_isBlocked cX5_isBlocked 2 (some .boolean) 1 := ⟨AW_in (List.mem_of_getElem? (i := 1329) (by decide +kernel)) (by decide +kernel), AW_in (List.mem_of_getElem? (i := 1330) (by decide +kernel)) (by decide +kernel), AW_in (List.mem_of_getElem? (i := 1331) (by decide +kernel)) (by decide +kernel), it_X5, cw_X5_isBlocked, ⟨by decide +kernel, by decide +kernel, by decide +kernel, by decide +kernel⟩, by decide⟩
theorem lh_L_248 : LkH 248 yL_keepPlate cL_keepPlate 4 hh_keepPlate 3 := ⟨AW_in (List.mem_of_getElem? (i := 857) (by decide +kernel)) (by decide +kernel), AW_in (List.mem_of_getElem? (i := 858) (by decide +kernel)) (by decide +kernel), it_L, AW_in (List.mem_of_getElem? (i := 859) (by decide +kernel)) (by decide +kernel), ⟨by decide +kernel, by decide +kernel, by decide +kernel, by decide +kernel⟩, by decide⟩
theorem lv_L_250 : LkV RL 250 RX5 yX5_keepPlate cX5_keepPlate 3 (some .int) 1 := ⟨AW_in (List.mem_of_getElem? (i := 1333) (by decide +kernel)) (by decide +kernel), AW_in (List.mem_of_getElem? (i := 1334) (by decide +kernel)) (by decide +kernel), AW_in (List.mem_of_getElem? (i := 1335) (by decide +kernel)) (by decide +kernel), it_X5, cw_X5_keepPlate, ⟨by decide +kernel, by decide +kernel, by decide +kernel, by decide +kernel⟩, by decide⟩
theorem lh_L_251 : LkH 251 yL_putOn cL_putOn 5 hh_putOn 4 := ⟨AW_in (List.mem_of_getElem? (i := 869) (by decide +kernel)) (by decide +kernel), AW_in (List.mem_of_getElem? (i := 870) (by decide +kernel)) (by decide +kernel), it_L, AW_in (List.mem_of_getElem? (i := 871) (by decide +kernel)) (by decide +kernel), ⟨by decide +kernel, by decide +kernel, by decide +kernel, by decide +kernel⟩, by decide⟩
theorem lv_L_253 : LkV RL 253 RX5 yX5_putOn cX5_putOn 4 (some .int) 2 := ⟨AW_in (List.mem_of_getElem? (i := 1337) (by decide +kernel)) (by decide +kernel), AW_in (List.mem_of_getElem? (i := 1338) (by decide +kernel)) (by decide +kernel), AW_in (List.mem_of_getElem? (i := 1339) (by decide +kernel)) (by decide +kernel), it_X5, cw_X5_putOn, ⟨by decide +kernel, by decide +kernel, by decide +kernel, by decide +kernel⟩, by decide⟩
theorem lh_L_254 : LkH 254 yL_swapPlates cL_swapPlates 5 hh_swapPlates 4 := ⟨AW_in (List.mem_of_getElem? (i := 895) (by decide +kernel)) (by decide +kernel), AW_in (List.mem_of_getElem? (i := 896) (by decide +kernel)) (by decide +kernel), it_L, AW_in (List.mem_of_getElem? (i := 897) (by decide +kernel)) (by decide +kernel), ⟨by decide +kernel, by decide +kernel, by decide +kernel, by decide +kernel⟩, by decide⟩
theorem lv_L_256 : LkV RL 256 RX5 yX5_swapPlates cX5_swapPlates 5 (some .int) 2 := ⟨AW_in (List.mem_of_getElem? (i := 1349) (by decide +kernel)) (by decide +kernel), AW_in (List.mem_of_getElem? (i := 1350) (by decide +kernel)) (by decide +kernel), AW_in (List.mem_of_getElem? (i := 1351) (by decide +kernel)) (by decide +kernel), it_X5, cw_X5_swapPlates, ⟨by decide +kernel, by decide +kernel, by decide +kernel, by decide +kernel⟩, by decide⟩
theorem lh_L_257 : LkH 257 yL_plateState cL_plateState 4 hh_plateState 3 := ⟨AW_in (List.mem_of_getElem? (i := 903) (by decide +kernel)) (by decide +kernel), AW_in (List.mem_of_getElem? (i := 904) (by decide +kernel)) (by decide +kernel), it_L, AW_in (List.mem_of_getElem? (i := 905) (by decide +kernel)) (by decide +kernel), ⟨by decide +kernel, by decide +kernel, by decide +kernel, by decide +kernel⟩, by decide⟩
theorem lv_L_259 : LkV RL 259 RX5 yX5_plateState cX5_plateState 2 (some .char) 1 := ⟨AW_in (List.mem_of_getElem? (i := 1353) (by decide +kernel)) (by decide +kernel), AW_in (List.mem_of_getElem? (i := 1354) (by decide +kernel)) (by decide +kernel), AW_in (List.mem_of_getElem? (i := 1355) (by decide +kernel)) (by decide +kernel), it_X5, cw_X5_plateState, ⟨by decide +kernel, by decide +kernel, by decide +kernel, by decide +kernel⟩, by decide⟩
theorem lh_L_260 : LkH 260 yL_daysKept cL_daysKept 4 hh_daysKept 3 := ⟨AW_in (List.mem_of_getElem? (i := 910) (by decide +kernel)) (by decide +kernel), AW_in (List.mem_of_getElem? (i := 911) (by decide +kernel)) (by decide +kernel), it_L, AW_in (List.mem_of_getElem? (i := 912) (by decide +kernel)) (by decide +kernel), ⟨by decide +kernel, by decide +kernel, by decide +kernel, by decide +kernel⟩, by decide⟩
theorem lv_L_262 : LkV RL 262 RX5 yX5_daysKept cX5_daysKept 2 (some .int) 1 := ⟨AW_in (List.mem_of_getElem? (i := 1365) (by decide +kernel)) (by decide +kernel), AW_in (List.mem_of_getElem? (i := 1366) (by decide +kernel)) (by decide +kernel), AW_in (List.mem_of_getElem? (i := 1367) (by decide +kernel)) (by decide +kernel), it_X5, cw_X5_daysKept, ⟨by decide +kernel, by decide +kernel, by decide +kernel, by decide +kernel⟩, by decide⟩
theorem lv_L_263 : LkV RL 263 RX4 yX4_plates cX4_plates 1 (some .int) 0 := ⟨AW_in (List.mem_of_getElem? (i := 144) (by decide +kernel)) (by decide +kernel), AW_in (List.mem_of_getElem? (i := 145) (by decide +kernel)) (by decide +kernel), AW_in (List.mem_of_getElem? (i := 146) (by decide +kernel)) (by decide +kernel), it_X4, cw_X4_plates, ⟨by decide +kernel, by decide +kernel, by decide +kernel, by decide +kernel⟩, by decide⟩
theorem lv_L_266 : LkV RL 266 RX5 yX5_plates cX5_plates 1 (some .int) 0 := ⟨AW_in (List.mem_of_getElem? (i := 1369) (by decide +kernel)) (by decide +kernel), AW_in (List.mem_of_getElem? (i := 1370) (by decide +kernel)) (by decide +kernel), AW_in (List.mem_of_getElem? (i := 1371) (by decide +kernel)) (by decide +kernel), it_X5, cw_X5_plates, ⟨by decide +kernel, by decide +kernel, by decide +kernel, by decide +kernel⟩, by decide⟩
theorem lh_L_267 : LkH 267 yL_plateOn cL_plateOn 5 hh_plateOn 4 := ⟨AW_in (List.mem_of_getElem? (i := 919) (by decide +kernel)) (by decide +kernel), AW_in (List.mem_of_getElem? (i := 920) (by decide +kernel)) (by decide +kernel), it_L, AW_in (List.mem_of_getElem? (i := 921) (by decide +kernel)) (by decide +kernel), ⟨by decide +kernel, by decide +kernel, by decide +kernel, by decide +kernel⟩, by decide⟩
theorem lv_L_269 : LkV RL 269 RX5 yX5_plateOn cX5_plateOn 4 (some .int) 2 := ⟨AW_in (List.mem_of_getElem? (i := 1373) (by decide +kernel)) (by decide +kernel), AW_in (List.mem_of_getElem? (i := 1374) (by decide +kernel)) (by decide +kernel), AW_in (List.mem_of_getElem? (i := 1375) (by decide +kernel)) (by decide +kernel), it_X5, cw_X5_plateOn, ⟨by decide +kernel, by decide +kernel, by decide +kernel, by decide +kernel⟩, by decide⟩
theorem lh_L_270 : LkH 270 yL_vehicleWith cL_vehicleWith 5 hh_vehicleWith 4 := ⟨AW_in (List.mem_of_getElem? (i := 926) (by decide +kernel)) (by decide +kernel), AW_in (List.mem_of_getElem? (i := 927) (by decide +kernel)) (by decide +kernel), it_L, AW_in (List.mem_of_getElem? (i := 928) (by decide +kernel)) (by decide +kernel), ⟨by decide +kernel, by decide +kernel, by decide +kernel, by decide +kernel⟩, by decide⟩
theorem lv_L_272 : LkV RL 272 RX5 yX5_vehicleWith cX5_vehicleWith 4 (some .int) 2 := ⟨AW_in (List.mem_of_getElem? (i := 1377) (by decide +kernel)) (by decide +kernel), AW_in (List.mem_of_getElem? (i := 1378) (by decide +kernel)) (by decide +kernel), AW_in (List.mem_of_getElem? (i := 1379) (by decide +kernel)) (by decide +kernel), it_X5, cw_X5_vehicleWith, ⟨by decide +kernel, by decide +kernel, by decide +kernel, by decide +kernel⟩, by decide⟩
theorem lh_L_273 : LkH 273 yL_vehicleByVehicles cL_vehicleByVehicles 5 hh_vehicleByVehicles 4 := ⟨AW_in (List.mem_of_getElem? (i := 937) (by decide +kernel)) (by decide +kernel), AW_in (List.mem_of_getElem? (i := 938) (by decide +kernel)) (by decide +kernel), it_L, AW_in (List.mem_of_getElem? (i := 939) (by decide +kernel)) (by decide +kernel), ⟨by decide +kernel, by decide +kernel, by decide +kernel, by decide +kernel⟩, by decide⟩
theorem lv_L_275 : LkV RL 275 RX5 yX5_vehicleByVehicles cX5_vehicleByVehicles 3 (some .int) 2 := ⟨AW_in (List.mem_of_getElem? (i := 1381) (by decide +kernel)) (by decide +kernel), AW_in (List.mem_of_getElem? (i := 1382) (by decide +kernel)) (by decide +kernel), AW_in (List.mem_of_getElem? (i := 1383) (by decide +kernel)) (by decide +kernel), it_X5, cw_X5_vehicleByVehicles, ⟨by decide +kernel, by decide +kernel, by decide +kernel, by decide +kernel⟩, by decide⟩
theorem lh_L_276 : LkH 276 yL_due cL_due 5 hh_due 4 := ⟨AW_in (List.mem_of_getElem? (i := 944) (by decide +kernel)) (by decide +kernel), AW_in (List.mem_of_getElem? (i := 945) (by decide +kernel)) (by decide +kernel), it_L, AW_in (List.mem_of_getElem? (i := 946) (by decide +kernel)) (by decide +kernel), ⟨by decide +kernel, by decide +kernel, by decide +kernel, by decide +kernel⟩, by decide⟩
theorem lv_L_278 : LkV RL 278 RX5 yX5_due cX5_due 3 (some .int) 2 := ⟨AW_in (List.mem_of_getElem? (i := 1386) (by decide +kernel)) (by decide +kernel), AW_in (List.mem_of_getElem? (i := 1387) (by decide +kernel)) (by decide +kernel), AW_in (List.mem_of_getElem? (i := 1388) (by decide +kernel)) (by decide +kernel), it_X5, cw_X5_due, ⟨by decide +kernel, by decide +kernel, by decide +kernel, by decide +kernel⟩, by decide⟩
theorem lh_L_279 : LkH 279 yL_owes cL_owes 4 hh_owes 3 := ⟨AW_in (List.mem_of_getElem? (i := 952) (by decide +kernel)) (by decide +kernel), AW_in (List.mem_of_getElem? (i := 953) (by decide +kernel)) (by decide +kernel), it_L, AW_in (List.mem_of_getElem? (i := 954) (by decide +kernel)) (by decide +kernel), ⟨by decide +kernel, by decide +kernel, by decide +kernel, by decide +kernel⟩, by decide⟩
theorem lv_L_281 : LkV RL 281 RX5 yX5_owes cX5_owes 2 (some .int) 1 := ⟨AW_in (List.mem_of_getElem? (i := 1397) (by decide +kernel)) (by decide +kernel), AW_in (List.mem_of_getElem? (i := 1398) (by decide +kernel)) (by decide +kernel), AW_in (List.mem_of_getElem? (i := 1399) (by decide +kernel)) (by decide +kernel), it_X5, cw_X5_owes, ⟨by decide +kernel, by decide +kernel, by decide +kernel, by decide +kernel⟩, by decide⟩
theorem lh_L_282 : LkH 282 yL_owesByDays cL_owesByDays 4 hh_owesByDays 3 := ⟨AW_in (List.mem_of_getElem? (i := 959) (by decide +kernel)) (by decide +kernel), AW_in (List.mem_of_getElem? (i := 960) (by decide +kernel)) (by decide +kernel), it_L, AW_in (List.mem_of_getElem? (i := 961) (by decide +kernel)) (by decide +kernel), ⟨by decide +kernel, by decide +kernel, by decide +kernel, by decide +kernel⟩, by decide⟩
theorem lv_L_284 : LkV RL 284 RX5 yX5_owesByDays cX5_owesByDays 2 (some .int) 1 := ⟨AW_in (List.mem_of_getElem? (i := 1405) (by decide +kernel)) (by decide +kernel), AW_in (List.mem_of_getElem? (i := 1406) (by decide +kernel)) (by decide +kernel), AW_in (List.mem_of_getElem? (i := 1407) (by decide +kernel)) (by decide +kernel), it_X5, cw_X5_owesByDays, ⟨by decide +kernel, by decide +kernel, by decide +kernel, by decide +kernel⟩, by decide⟩
theorem lh_L_285 : LkH 285 yL_pay cL_pay 5 hh_pay 4 := ⟨AW_in (List.mem_of_getElem? (i := 966) (by decide +kernel)) (by decide +kernel), AW_in (List.mem_of_getElem? (i := 967) (by decide +kernel)) (by decide +kernel), it_L, AW_in (List.mem_of_getElem? (i := 968) (by decide +kernel)) (by decide +kernel), ⟨by decide +kernel, by decide +kernel, by decide +kernel, by decide +kernel⟩, by decide⟩
theorem lv_L_287 : LkV RL 287 RX5 yX5_pay cX5_pay 3 (some .int) 2 := ⟨AW_in (List.mem_of_getElem? (i := 1410) (by decide +kernel)) (by decide +kernel), AW_in (List.mem_of_getElem? (i := 1411) (by decide +kernel)) (by decide +kernel), AW_in (List.mem_of_getElem? (i := 1412) (by decide +kernel)) (by decide +kernel), it_X5, cw_X5_pay, ⟨by decide +kernel, by decide +kernel, by decide +kernel, by decide +kernel⟩, by decide⟩
theorem lh_L_288 : LkH 288 yL_mostOwing cL_mostOwing 3 hh_mostOwing 2 := ⟨AW_in (List.mem_of_getElem? (i := 973) (by decide +kernel)) (by decide +kernel), AW_in (List.mem_of_getElem? (i := 974) (by decide +kernel)) (by decide +kernel), it_L, AW_in (List.mem_of_getElem? (i := 975) (by decide +kernel)) (by decide +kernel), ⟨by decide +kernel, by decide +kernel, by decide +kernel, by decide +kernel⟩, by decide⟩
theorem lv_L_290 : LkV RL 290 RX5 yX5_mostOwing cX5_mostOwing 5 (some .int) 0 := ⟨AW_in (List.mem_of_getElem? (i := 1414) (by decide +kernel)) (by decide +kernel), AW_in (List.mem_of_getElem? (i := 1415) (by decide +kernel)) (by decide +kernel), AW_in (List.mem_of_getElem? (i := 1416) (by decide +kernel)) (by decide +kernel), it_X5, cw_X5_mostOwing, ⟨by decide +kernel, by decide +kernel, by decide +kernel, by decide +kernel⟩, by decide⟩
theorem lv_L_291 : LkV RL 291 RX4 yX4_collected cX4_collected 1 (some .long) 0 := ⟨AW_in (List.mem_of_getElem? (i := 148) (by decide +kernel)) (by decide +kernel), AW_in (List.mem_of_getElem? (i := 149) (by decide +kernel)) (by decide +kernel), AW_in (List.mem_of_getElem? (i := 150) (by decide +kernel)) (by decide +kernel), it_X4, cw_X4_collected, ⟨by decide +kernel, by decide +kernel, by decide +kernel, by decide +kernel⟩, by decide⟩
theorem lv_L_295 : LkV RL 295 RX5 yX5_collected cX5_collected 1 (some .long) 0 := ⟨AW_in (List.mem_of_getElem? (i := 1418) (by decide +kernel)) (by decide +kernel), AW_in (List.mem_of_getElem? (i := 1419) (by decide +kernel)) (by decide +kernel), AW_in (List.mem_of_getElem? (i := 1420) (by decide +kernel)) (by decide +kernel), it_X5, cw_X5_collected, ⟨by decide +kernel, by decide +kernel, by decide +kernel, by decide +kernel⟩, by decide⟩
theorem lh_L_296 : LkH 296 yL_roadShare cL_roadShare 3 hh_roadShare 2 := ⟨AW_in (List.mem_of_getElem? (i := 980) (by decide +kernel)) (by decide +kernel), AW_in (List.mem_of_getElem? (i := 981) (by decide +kernel)) (by decide +kernel), it_L, AW_in (List.mem_of_getElem? (i := 982) (by decide +kernel)) (by decide +kernel), ⟨by decide +kernel, by decide +kernel, by decide +kernel, by decide +kernel⟩, by decide⟩
theorem lv_L_299 : LkV RL 299 RX5 yX5_roadShare cX5_roadShare 3 (some .float) 0 := ⟨AW_in (List.mem_of_getElem? (i := 1422) (by decide +kernel)) (by decide +kernel), AW_in (List.mem_of_getElem? (i := 1423) (by decide +kernel)) (by decide +kernel), AW_in (List.mem_of_getElem? (i := 1424) (by decide +kernel)) (by decide +kernel), it_X5, cw_X5_roadShare, ⟨by decide +kernel, by decide +kernel, by decide +kernel, by decide +kernel⟩, by decide⟩
theorem lh_L_300 : LkH 300 yL_meanTransfers cL_meanTransfers 3 hh_meanTransfers 2 := ⟨AW_in (List.mem_of_getElem? (i := 1008) (by decide +kernel)) (by decide +kernel), AW_in (List.mem_of_getElem? (i := 1009) (by decide +kernel)) (by decide +kernel), it_L, AW_in (List.mem_of_getElem? (i := 1010) (by decide +kernel)) (by decide +kernel), ⟨by decide +kernel, by decide +kernel, by decide +kernel, by decide +kernel⟩, by decide⟩
theorem lv_L_302 : LkV RL 302 RX5 yX5_meanTransfers cX5_meanTransfers 1 (some .double) 0 := ⟨AW_in (List.mem_of_getElem? (i := 1426) (by decide +kernel)) (by decide +kernel), AW_in (List.mem_of_getElem? (i := 1427) (by decide +kernel)) (by decide +kernel), AW_in (List.mem_of_getElem? (i := 1428) (by decide +kernel)) (by decide +kernel), it_X5, cw_X5_meanTransfers, ⟨by decide +kernel, by decide +kernel, by decide +kernel, by decide +kernel⟩, by decide⟩
theorem lv_L_303 : LkV RL 303 RX4 yX4_isSound cX4_isSound 1 (some .boolean) 0 := ⟨AW_in (List.mem_of_getElem? (i := 152) (by decide +kernel)) (by decide +kernel), AW_in (List.mem_of_getElem? (i := 153) (by decide +kernel)) (by decide +kernel), AW_in (List.mem_of_getElem? (i := 154) (by decide +kernel)) (by decide +kernel), it_X4, cw_X4_isSound, ⟨by decide +kernel, by decide +kernel, by decide +kernel, by decide +kernel⟩, by decide⟩
theorem lv_L_307 : LkV RL 307 RX5 yX5_isSound cX5_isSound 1 (some .boolean) 0 := ⟨AW_in (List.mem_of_getElem? (i := 1430) (by decide +kernel)) (by decide +kernel), AW_in (List.mem_of_getElem? (i := 1431) (by decide +kernel)) (by decide +kernel), AW_in (List.mem_of_getElem? (i := 1432) (by decide +kernel)) (by decide +kernel), it_X5, cw_X5_isSound, ⟨by decide +kernel, by decide +kernel, by decide +kernel, by decide +kernel⟩, by decide⟩
theorem hk_addKeeper : HkOk 3 hh_addKeeper [eIS] := ⟨rfl, by decide, by decide, fun i q E h1 h2 => match i, h1, h2 with
  | 0, h1, h2 => by cases h1; cases h2; exact ⟨by decide, by decide, by decide, le_L_13⟩
  | j + 1, h1, _ => by simp at h1⟩
theorem hk_pass : HkOk 4 hh_pass [eIA] := ⟨rfl, by decide, by decide, fun i q E h1 h2 => match i, h1, h2 with
  | 0, h1, h2 => by cases h1; cases h2; exact ⟨by decide, by decide, by decide, le_L_19⟩
  | j + 1, h1, _ => by simp at h1⟩
theorem hk_register : HkOk 5 hh_register [eIO, eIA, eIS] := ⟨rfl, by decide, by decide, fun i q E h1 h2 => match i, h1, h2 with
  | 0, h1, h2 => by cases h1; cases h2; exact ⟨by decide, by decide, by decide, le_L_25⟩
  | 1, h1, h2 => by cases h1; cases h2; exact ⟨by decide, by decide, by decide, le_L_19⟩
  | 2, h1, h2 => by cases h1; cases h2; exact ⟨by decide, by decide, by decide, le_L_13⟩
  | j + 3, h1, _ => by simp at h1⟩
theorem hk_bringIn : HkOk 5 hh_bringIn [eIO, eIA, eIS] := ⟨rfl, by decide, by decide, fun i q E h1 h2 => match i, h1, h2 with
  | 0, h1, h2 => by cases h1; cases h2; exact ⟨by decide, by decide, by decide, le_L_25⟩
  | 1, h1, h2 => by cases h1; cases h2; exact ⟨by decide, by decide, by decide, le_L_19⟩
  | 2, h1, h2 => by cases h1; cases h2; exact ⟨by decide, by decide, by decide, le_L_13⟩
  | j + 3, h1, _ => by simp at h1⟩
theorem hk_admit : HkOk 4 hh_admit [eIO, eUO, eIS] := ⟨rfl, by decide, by decide, fun i q E h1 h2 => match i, h1, h2 with
  | 0, h1, h2 => by cases h1; cases h2; exact ⟨by decide, by decide, by decide, le_L_25⟩
  | 1, h1, h2 => by cases h1; cases h2; exact ⟨by decide, by decide, by decide, le_L_33⟩
  | 2, h1, h2 => by cases h1; cases h2; exact ⟨by decide, by decide, by decide, le_L_13⟩
  | j + 3, h1, _ => by simp at h1⟩
theorem hk_setOnRoad : HkOk 5 hh_setOnRoad [eIO, eUO] := ⟨rfl, by decide, by decide, fun i q E h1 h2 => match i, h1, h2 with
  | 0, h1, h2 => by cases h1; cases h2; exact ⟨by decide, by decide, by decide, le_L_25⟩
  | 1, h1, h2 => by cases h1; cases h2; exact ⟨by decide, by decide, by decide, le_L_33⟩
  | j + 2, h1, _ => by simp at h1⟩
theorem hk_isOnRoad : HkOk 5 hh_isOnRoad [eIO, eIA] := ⟨rfl, by decide, by decide, fun i q E h1 h2 => match i, h1, h2 with
  | 0, h1, h2 => by cases h1; cases h2; exact ⟨by decide, by decide, by decide, le_L_25⟩
  | 1, h1, h2 => by cases h1; cases h2; exact ⟨by decide, by decide, by decide, le_L_19⟩
  | j + 2, h1, _ => by simp at h1⟩
theorem hk_scrap : HkOk 4 hh_scrap [eIO, eIS] := ⟨rfl, by decide, by decide, fun i q E h1 h2 => match i, h1, h2 with
  | 0, h1, h2 => by cases h1; cases h2; exact ⟨by decide, by decide, by decide, le_L_25⟩
  | 1, h1, h2 => by cases h1; cases h2; exact ⟨by decide, by decide, by decide, le_L_13⟩
  | j + 2, h1, _ => by simp at h1⟩
theorem hk_kindOf : HkOk 4 hh_kindOf [eIO] := ⟨rfl, by decide, by decide, fun i q E h1 h2 => match i, h1, h2 with
  | 0, h1, h2 => by cases h1; cases h2; exact ⟨by decide, by decide, by decide, le_L_25⟩
  | j + 1, h1, _ => by simp at h1⟩
theorem hk_sell : HkOk 9 hh_sell [eIO, eIA, eUO, eIS] := ⟨rfl, by decide, by decide, fun i q E h1 h2 => match i, h1, h2 with
  | 0, h1, h2 => by cases h1; cases h2; exact ⟨by decide, by decide, by decide, le_L_25⟩
  | 1, h1, h2 => by cases h1; cases h2; exact ⟨by decide, by decide, by decide, le_L_19⟩
  | 2, h1, h2 => by cases h1; cases h2; exact ⟨by decide, by decide, by decide, le_L_33⟩
  | 3, h1, h2 => by cases h1; cases h2; exact ⟨by decide, by decide, by decide, le_L_13⟩
  | j + 4, h1, _ => by simp at h1⟩
theorem hk_buy : HkOk 7 hh_buy [eIO, eIA, eIS] := ⟨rfl, by decide, by decide, fun i q E h1 h2 => match i, h1, h2 with
  | 0, h1, h2 => by cases h1; cases h2; exact ⟨by decide, by decide, by decide, le_L_25⟩
  | 1, h1, h2 => by cases h1; cases h2; exact ⟨by decide, by decide, by decide, le_L_19⟩
  | 2, h1, h2 => by cases h1; cases h2; exact ⟨by decide, by decide, by decide, le_L_13⟩
  | j + 3, h1, _ => by simp at h1⟩
theorem hk_withdraw : HkOk 4 hh_withdraw [eNS, eIS] := ⟨rfl, by decide, by decide, fun i q E h1 h2 => match i, h1, h2 with
  | 0, h1, h2 => by cases h1; cases h2; exact ⟨by decide, by decide, by decide, le_L_61⟩
  | 1, h1, h2 => by cases h1; cases h2; exact ⟨by decide, by decide, by decide, le_L_13⟩
  | j + 2, h1, _ => by simp at h1⟩
theorem hk_stateOf : HkOk 4 hh_stateOf [eNS] := ⟨rfl, by decide, by decide, fun i q E h1 h2 => match i, h1, h2 with
  | 0, h1, h2 => by cases h1; cases h2; exact ⟨by decide, by decide, by decide, le_L_61⟩
  | j + 1, h1, _ => by simp at h1⟩
theorem hk_partnerOf : HkOk 4 hh_partnerOf [eNS, eIS] := ⟨rfl, by decide, by decide, fun i q E h1 h2 => match i, h1, h2 with
  | 0, h1, h2 => by cases h1; cases h2; exact ⟨by decide, by decide, by decide, le_L_61⟩
  | 1, h1, h2 => by cases h1; cases h2; exact ⟨by decide, by decide, by decide, le_L_13⟩
  | j + 2, h1, _ => by simp at h1⟩
theorem hk_openNotices : HkOk 4 hh_openNotices [eIO] := ⟨rfl, by decide, by decide, fun i q E h1 h2 => match i, h1, h2 with
  | 0, h1, h2 => by cases h1; cases h2; exact ⟨by decide, by decide, by decide, le_L_25⟩
  | j + 1, h1, _ => by simp at h1⟩
theorem hk_keeperOn : HkOk 5 hh_keeperOn [eIO, eIA, eNS] := ⟨rfl, by decide, by decide, fun i q E h1 h2 => match i, h1, h2 with
  | 0, h1, h2 => by cases h1; cases h2; exact ⟨by decide, by decide, by decide, le_L_25⟩
  | 1, h1, h2 => by cases h1; cases h2; exact ⟨by decide, by decide, by decide, le_L_19⟩
  | 2, h1, h2 => by cases h1; cases h2; exact ⟨by decide, by decide, by decide, le_L_61⟩
  | j + 3, h1, _ => by simp at h1⟩
theorem hk_keeperByGoing : HkOk 5 hh_keeperByGoing [eIO, eIA, eNS] := ⟨rfl, by decide, by decide, fun i q E h1 h2 => match i, h1, h2 with
  | 0, h1, h2 => by cases h1; cases h2; exact ⟨by decide, by decide, by decide, le_L_25⟩
  | 1, h1, h2 => by cases h1; cases h2; exact ⟨by decide, by decide, by decide, le_L_19⟩
  | 2, h1, h2 => by cases h1; cases h2; exact ⟨by decide, by decide, by decide, le_L_61⟩
  | j + 3, h1, _ => by simp at h1⟩
theorem hk_transfers : HkOk 4 hh_transfers [eIO] := ⟨rfl, by decide, by decide, fun i q E h1 h2 => match i, h1, h2 with
  | 0, h1, h2 => by cases h1; cases h2; exact ⟨by decide, by decide, by decide, le_L_25⟩
  | j + 1, h1, _ => by simp at h1⟩
theorem hk_transferDay : HkOk 5 hh_transferDay [eIO] := ⟨rfl, by decide, by decide, fun i q E h1 h2 => match i, h1, h2 with
  | 0, h1, h2 => by cases h1; cases h2; exact ⟨by decide, by decide, by decide, le_L_25⟩
  | j + 1, h1, _ => by simp at h1⟩
theorem hk_keptBy : HkOk 4 hh_keptBy [eIO] := ⟨rfl, by decide, by decide, fun i q E h1 h2 => match i, h1, h2 with
  | 0, h1, h2 => by cases h1; cases h2; exact ⟨by decide, by decide, by decide, le_L_25⟩
  | j + 1, h1, _ => by simp at h1⟩
theorem hk_addLien : HkOk 7 hh_addLien [eIO, eIA, eIS] := ⟨rfl, by decide, by decide, fun i q E h1 h2 => match i, h1, h2 with
  | 0, h1, h2 => by cases h1; cases h2; exact ⟨by decide, by decide, by decide, le_L_25⟩
  | 1, h1, h2 => by cases h1; cases h2; exact ⟨by decide, by decide, by decide, le_L_19⟩
  | 2, h1, h2 => by cases h1; cases h2; exact ⟨by decide, by decide, by decide, le_L_13⟩
  | j + 3, h1, _ => by simp at h1⟩
theorem hk_payLien : HkOk 7 hh_payLien [eIO, eNS, eIA] := ⟨rfl, by decide, by decide, fun i q E h1 h2 => match i, h1, h2 with
  | 0, h1, h2 => by cases h1; cases h2; exact ⟨by decide, by decide, by decide, le_L_25⟩
  | 1, h1, h2 => by cases h1; cases h2; exact ⟨by decide, by decide, by decide, le_L_61⟩
  | 2, h1, h2 => by cases h1; cases h2; exact ⟨by decide, by decide, by decide, le_L_19⟩
  | j + 3, h1, _ => by simp at h1⟩
theorem hk_lienOf : HkOk 5 hh_lienOf [eIO, eNS] := ⟨rfl, by decide, by decide, fun i q E h1 h2 => match i, h1, h2 with
  | 0, h1, h2 => by cases h1; cases h2; exact ⟨by decide, by decide, by decide, le_L_25⟩
  | 1, h1, h2 => by cases h1; cases h2; exact ⟨by decide, by decide, by decide, le_L_61⟩
  | j + 2, h1, _ => by simp at h1⟩
theorem hk_isBlocked : HkOk 4 hh_isBlocked [eIO] := ⟨rfl, by decide, by decide, fun i q E h1 h2 => match i, h1, h2 with
  | 0, h1, h2 => by cases h1; cases h2; exact ⟨by decide, by decide, by decide, le_L_25⟩
  | j + 1, h1, _ => by simp at h1⟩
theorem hk_keepPlate : HkOk 4 hh_keepPlate [eIO, eNS, eIS] := ⟨rfl, by decide, by decide, fun i q E h1 h2 => match i, h1, h2 with
  | 0, h1, h2 => by cases h1; cases h2; exact ⟨by decide, by decide, by decide, le_L_25⟩
  | 1, h1, h2 => by cases h1; cases h2; exact ⟨by decide, by decide, by decide, le_L_61⟩
  | 2, h1, h2 => by cases h1; cases h2; exact ⟨by decide, by decide, by decide, le_L_13⟩
  | j + 3, h1, _ => by simp at h1⟩
theorem hk_putOn : HkOk 5 hh_putOn [eNS, eIO, eUO, eIS] := ⟨rfl, by decide, by decide, fun i q E h1 h2 => match i, h1, h2 with
  | 0, h1, h2 => by cases h1; cases h2; exact ⟨by decide, by decide, by decide, le_L_61⟩
  | 1, h1, h2 => by cases h1; cases h2; exact ⟨by decide, by decide, by decide, le_L_25⟩
  | 2, h1, h2 => by cases h1; cases h2; exact ⟨by decide, by decide, by decide, le_L_33⟩
  | 3, h1, h2 => by cases h1; cases h2; exact ⟨by decide, by decide, by decide, le_L_13⟩
  | j + 4, h1, _ => by simp at h1⟩
theorem hk_swapPlates : HkOk 5 hh_swapPlates [eIO, eUO, eIS] := ⟨rfl, by decide, by decide, fun i q E h1 h2 => match i, h1, h2 with
  | 0, h1, h2 => by cases h1; cases h2; exact ⟨by decide, by decide, by decide, le_L_25⟩
  | 1, h1, h2 => by cases h1; cases h2; exact ⟨by decide, by decide, by decide, le_L_33⟩
  | 2, h1, h2 => by cases h1; cases h2; exact ⟨by decide, by decide, by decide, le_L_13⟩
  | j + 3, h1, _ => by simp at h1⟩
theorem hk_plateState : HkOk 4 hh_plateState [eNS] := ⟨rfl, by decide, by decide, fun i q E h1 h2 => match i, h1, h2 with
  | 0, h1, h2 => by cases h1; cases h2; exact ⟨by decide, by decide, by decide, le_L_61⟩
  | j + 1, h1, _ => by simp at h1⟩
theorem hk_daysKept : HkOk 4 hh_daysKept [eNS, eIS] := ⟨rfl, by decide, by decide, fun i q E h1 h2 => match i, h1, h2 with
  | 0, h1, h2 => by cases h1; cases h2; exact ⟨by decide, by decide, by decide, le_L_61⟩
  | 1, h1, h2 => by cases h1; cases h2; exact ⟨by decide, by decide, by decide, le_L_13⟩
  | j + 2, h1, _ => by simp at h1⟩
theorem hk_plateOn : HkOk 5 hh_plateOn [eIO, eIA, eNS] := ⟨rfl, by decide, by decide, fun i q E h1 h2 => match i, h1, h2 with
  | 0, h1, h2 => by cases h1; cases h2; exact ⟨by decide, by decide, by decide, le_L_25⟩
  | 1, h1, h2 => by cases h1; cases h2; exact ⟨by decide, by decide, by decide, le_L_19⟩
  | 2, h1, h2 => by cases h1; cases h2; exact ⟨by decide, by decide, by decide, le_L_61⟩
  | j + 3, h1, _ => by simp at h1⟩
theorem hk_vehicleWith : HkOk 5 hh_vehicleWith [eNS, eIA, eIS] := ⟨rfl, by decide, by decide, fun i q E h1 h2 => match i, h1, h2 with
  | 0, h1, h2 => by cases h1; cases h2; exact ⟨by decide, by decide, by decide, le_L_61⟩
  | 1, h1, h2 => by cases h1; cases h2; exact ⟨by decide, by decide, by decide, le_L_19⟩
  | 2, h1, h2 => by cases h1; cases h2; exact ⟨by decide, by decide, by decide, le_L_13⟩
  | j + 3, h1, _ => by simp at h1⟩
theorem hk_vehicleByVehicles : HkOk 5 hh_vehicleByVehicles [eNS, eIA, eIS] := ⟨rfl, by decide, by decide, fun i q E h1 h2 => match i, h1, h2 with
  | 0, h1, h2 => by cases h1; cases h2; exact ⟨by decide, by decide, by decide, le_L_61⟩
  | 1, h1, h2 => by cases h1; cases h2; exact ⟨by decide, by decide, by decide, le_L_19⟩
  | 2, h1, h2 => by cases h1; cases h2; exact ⟨by decide, by decide, by decide, le_L_13⟩
  | j + 3, h1, _ => by simp at h1⟩
theorem hk_due : HkOk 5 hh_due [eIO, eIA] := ⟨rfl, by decide, by decide, fun i q E h1 h2 => match i, h1, h2 with
  | 0, h1, h2 => by cases h1; cases h2; exact ⟨by decide, by decide, by decide, le_L_25⟩
  | 1, h1, h2 => by cases h1; cases h2; exact ⟨by decide, by decide, by decide, le_L_19⟩
  | j + 2, h1, _ => by simp at h1⟩
theorem hk_owes : HkOk 4 hh_owes [eIO] := ⟨rfl, by decide, by decide, fun i q E h1 h2 => match i, h1, h2 with
  | 0, h1, h2 => by cases h1; cases h2; exact ⟨by decide, by decide, by decide, le_L_25⟩
  | j + 1, h1, _ => by simp at h1⟩
theorem hk_owesByDays : HkOk 4 hh_owesByDays [eIO] := ⟨rfl, by decide, by decide, fun i q E h1 h2 => match i, h1, h2 with
  | 0, h1, h2 => by cases h1; cases h2; exact ⟨by decide, by decide, by decide, le_L_25⟩
  | j + 1, h1, _ => by simp at h1⟩
theorem hk_pay : HkOk 5 hh_pay [eIO, eIA] := ⟨rfl, by decide, by decide, fun i q E h1 h2 => match i, h1, h2 with
  | 0, h1, h2 => by cases h1; cases h2; exact ⟨by decide, by decide, by decide, le_L_25⟩
  | 1, h1, h2 => by cases h1; cases h2; exact ⟨by decide, by decide, by decide, le_L_19⟩
  | j + 2, h1, _ => by simp at h1⟩
theorem hk_mostOwing : HkOk 3 hh_mostOwing [eNS] := ⟨rfl, by decide, by decide, fun i q E h1 h2 => match i, h1, h2 with
  | 0, h1, h2 => by cases h1; cases h2; exact ⟨by decide, by decide, by decide, le_L_61⟩
  | j + 1, h1, _ => by simp at h1⟩
theorem hk_roadShare : HkOk 3 hh_roadShare [eAE] := ⟨rfl, by decide, by decide, fun i q E h1 h2 => match i, h1, h2 with
  | 0, h1, h2 => by cases h1; cases h2; exact ⟨by decide, by decide, by decide, le_L_145⟩
  | j + 1, h1, _ => by simp at h1⟩
theorem hk_meanTransfers : HkOk 3 hh_meanTransfers [eAE] := ⟨rfl, by decide, by decide, fun i q E h1 h2 => match i, h1, h2 with
  | 0, h1, h2 => by cases h1; cases h2; exact ⟨by decide, by decide, by decide, le_L_145⟩
  | j + 1, h1, _ => by simp at h1⟩
/-! what a helper leaves -/
abbrev pX (t : Nat × Nat) : Prop := t.1 ≤ 5 ∨ (7 ≤ t.1 ∧ t.1 ≤ 11 ∧ t.2 < 1000) ∨ t.1 = 12 ∨ t.1 = 13
theorem MA0.frX {M M1 : Mm} {m : Nat} (h : MA0 M m) (hF : Fr pX M M1) : MA0 M1 m ∧ mI M1 m = mI M m ∧ mJ M1 m = mJ M m ∧ mR M1 m = mR M m ∧ ∀ k, 10 ≤ k → k ≤ 32 → ma M1 m k = ma M m k := by
  have hm := (hF m (by rw [h.t0]; decide)).2 (by rw [h.t0]; decide)
  obtain ⟨e1, e2, e3, e4, e5, e6⟩ := hm
  have f10 := (hF (mR M m 10) (by rw [h.b10.1]; decide)).2 (by rw [h.b10.1]; decide)
  have f11 := (hF (mR M m 11) (by rw [h.b11.1]; decide)).2 (by rw [h.b11.1]; decide)
  have f12 := (hF (mR M m 12) (by rw [h.b12.1]; decide)).2 (by rw [h.b12.1]; decide)
  have f13 := (hF (mR M m 13) (by rw [h.b13.1]; decide)).2 (by rw [h.b13.1]; decide)
  have f14 := (hF (mR M m 14) (by rw [h.b14.1]; decide)).2 (by rw [h.b14.1]; decide)
  have f15 := (hF (mR M m 15) (by rw [h.b15.1]; decide)).2 (by rw [h.b15.1]; decide)
  have f16 := (hF (mR M m 16) (by rw [h.b16.1]; decide)).2 (by rw [h.b16.1]; decide)
  have f17 := (hF (mR M m 17) (by rw [h.b17.1]; decide)).2 (by rw [h.b17.1]; decide)
  have f18 := (hF (mR M m 18) (by rw [h.b18.1]; decide)).2 (by rw [h.b18.1]; decide)
  have f19 := (hF (mR M m 19) (by rw [h.b19.1]; decide)).2 (by rw [h.b19.1]; decide)
  have f20 := (hF (mR M m 20) (by rw [h.b20.1]; decide)).2 (by rw [h.b20.1]; decide)
  have f21 := (hF (mR M m 21) (by rw [h.b21.1]; decide)).2 (by rw [h.b21.1]; decide)
  have f22 := (hF (mR M m 22) (by rw [h.b22.1]; decide)).2 (by rw [h.b22.1]; decide)
  have f23 := (hF (mR M m 23) (by rw [h.b23.1]; decide)).2 (by rw [h.b23.1]; decide)
  have f24 := (hF (mR M m 24) (by rw [h.b24.1]; decide)).2 (by rw [h.b24.1]; decide)
  have f25 := (hF (mR M m 25) (by rw [h.b25.1]; decide)).2 (by rw [h.b25.1]; decide)
  have f26 := (hF (mR M m 26) (by rw [h.b26.1]; decide)).2 (by rw [h.b26.1]; decide)
  have f27 := (hF (mR M m 27) (by rw [h.b27.1]; decide)).2 (by rw [h.b27.1]; decide)
  have f28 := (hF (mR M m 28) (by rw [h.b28.1]; decide)).2 (by rw [h.b28.1]; decide)
  have f29 := (hF (mR M m 29) (by rw [h.b29.1]; decide)).2 (by rw [h.b29.1]; decide)
  have f30 := (hF (mR M m 30) (by rw [h.b30.1]; decide)).2 (by rw [h.b30.1]; decide)
  have f31 := (hF (mR M m 31) (by rw [h.b31.1]; decide)).2 (by rw [h.b31.1]; decide)
  have f32 := (hF (mR M m 32) (by rw [h.b32.1]; decide)).2 (by rw [h.b32.1]; decide)
  refine ⟨⟨e1.trans h.t0, ⟨by rw [e4]; exact f10.1.trans h.b10.1, by rw [e4]; exact f10.2.1.trans h.b10.2⟩, ⟨by rw [e4]; exact f11.1.trans h.b11.1, by rw [e4]; exact f11.2.1.trans h.b11.2⟩, ⟨by rw [e4]; exact f12.1.trans h.b12.1, by rw [e4]; exact f12.2.1.trans h.b12.2⟩, ⟨by rw [e4]; exact f13.1.trans h.b13.1, by rw [e4]; exact f13.2.1.trans h.b13.2⟩, ⟨by rw [e4]; exact f14.1.trans h.b14.1, by rw [e4]; exact f14.2.1.trans h.b14.2⟩, ⟨by rw [e4]; exact f15.1.trans h.b15.1, by rw [e4]; exact f15.2.1.trans h.b15.2⟩, ⟨by rw [e4]; exact f16.1.trans h.b16.1, by rw [e4]; exact f16.2.1.trans h.b16.2⟩, ⟨by rw [e4]; exact f17.1.trans h.b17.1, by rw [e4]; exact f17.2.1.trans h.b17.2⟩, ⟨by rw [e4]; exact f18.1.trans h.b18.1, by rw [e4]; exact f18.2.1.trans h.b18.2⟩, ⟨by rw [e4]; exact f19.1.trans h.b19.1, by rw [e4]; exact f19.2.1.trans h.b19.2⟩, ⟨by rw [e4]; exact f20.1.trans h.b20.1, by rw [e4]; exact f20.2.1.trans h.b20.2⟩, ⟨by rw [e4]; exact f21.1.trans h.b21.1, by rw [e4]; exact f21.2.1.trans h.b21.2⟩, ⟨by rw [e4]; exact f22.1.trans h.b22.1, by rw [e4]; exact f22.2.1.trans h.b22.2⟩, ⟨by rw [e4]; exact f23.1.trans h.b23.1, by rw [e4]; exact f23.2.1.trans h.b23.2⟩, ⟨by rw [e4]; exact f24.1.trans h.b24.1, by rw [e4]; exact f24.2.1.trans h.b24.2⟩, ⟨by rw [e4]; exact f25.1.trans h.b25.1, by rw [e4]; exact f25.2.1.trans h.b25.2⟩, ⟨by rw [e4]; exact f26.1.trans h.b26.1, by rw [e4]; exact f26.2.1.trans h.b26.2⟩, ⟨by rw [e4]; exact f27.1.trans h.b27.1, by rw [e4]; exact f27.2.1.trans h.b27.2⟩, ⟨by rw [e4]; exact f28.1.trans h.b28.1, by rw [e4]; exact f28.2.1.trans h.b28.2⟩, ⟨by rw [e4]; exact f29.1.trans h.b29.1, by rw [e4]; exact f29.2.1.trans h.b29.2⟩, ⟨by rw [e4]; exact f30.1.trans h.b30.1, by rw [e4]; exact f30.2.1.trans h.b30.2⟩, ⟨by rw [e4]; exact f31.1.trans h.b31.1, by rw [e4]; exact f31.2.1.trans h.b31.2⟩, ⟨by rw [e4]; exact f32.1.trans h.b32.1, by rw [e4]; exact f32.2.1.trans h.b32.2⟩⟩, e3, e5, e4, fun k h1 h2 => ?_⟩
  unfold ma
  rw [e4]
  match k, h1, h2 with
  | 10, _, _ => exact f10.2.2.1
  | 11, _, _ => exact f11.2.2.1
  | 12, _, _ => exact f12.2.2.1
  | 13, _, _ => exact f13.2.2.1
  | 14, _, _ => exact f14.2.2.1
  | 15, _, _ => exact f15.2.2.1
  | 16, _, _ => exact f16.2.2.1
  | 17, _, _ => exact f17.2.2.1
  | 18, _, _ => exact f18.2.2.1
  | 19, _, _ => exact f19.2.2.1
  | 20, _, _ => exact f20.2.2.1
  | 21, _, _ => exact f21.2.2.1
  | 22, _, _ => exact f22.2.2.1
  | 23, _, _ => exact f23.2.2.1
  | 24, _, _ => exact f24.2.2.1
  | 25, _, _ => exact f25.2.2.1
  | 26, _, _ => exact f26.2.2.1
  | 27, _, _ => exact f27.2.2.1
  | 28, _, _ => exact f28.2.2.1
  | 29, _, _ => exact f29.2.2.1
  | 30, _, _ => exact f30.2.2.1
  | 31, _, _ => exact f31.2.2.1
  | 32, _, _ => exact f32.2.2.1
  | 0, h, _ => exact absurd h (by decide)
  | 1, h, _ => exact absurd h (by decide)
  | 2, h, _ => exact absurd h (by decide)
  | 3, h, _ => exact absurd h (by decide)
  | 4, h, _ => exact absurd h (by decide)
  | 5, h, _ => exact absurd h (by decide)
  | 6, h, _ => exact absurd h (by decide)
  | 7, h, _ => exact absurd h (by decide)
  | 8, h, _ => exact absurd h (by decide)
  | 9, h, _ => exact absurd h (by decide)
  | q + 33, _, h => exact absurd h (by omega)
theorem MAt.frX {M M1 : Mm} {m : Nat} {S : St} {t : Nat} (h : MAt M m S t) (hF : Fr pX M M1) : MAt M1 m S t := by
  obtain ⟨h0, nP, nR, nS, h1, hb⟩ := h
  obtain ⟨k0, kI, kJ, kR, ka⟩ := h0.frX hF
  refine ⟨k0, nP, nR, nS, ?_, hb⟩
  unfold MA1 at h1 ⊢
  rw [kI, kJ, ka 10 (by decide) (by decide), ka 11 (by decide) (by decide), ka 12 (by decide) (by decide), ka 13 (by decide) (by decide), ka 14 (by decide) (by decide), ka 15 (by decide) (by decide), ka 16 (by decide) (by decide), ka 17 (by decide) (by decide), ka 18 (by decide) (by decide), ka 19 (by decide) (by decide), ka 20 (by decide) (by decide), ka 21 (by decide) (by decide), ka 22 (by decide) (by decide), ka 23 (by decide) (by decide), ka 24 (by decide) (by decide), ka 25 (by decide) (by decide), ka 26 (by decide) (by decide), ka 27 (by decide) (by decide), ka 28 (by decide) (by decide), ka 29 (by decide) (by decide), ka 30 (by decide) (by decide), ka 31 (by decide) (by decide), ka 32 (by decide) (by decide)]
  exact h1
theorem pC_pX : ∀ t, pC t → pX t := fun t h => h.elim Or.inl (fun h => Or.inr (Or.inl h))
abbrev pO (t : Nat × Nat) : Prop := t.1 = 12 ∨ t.1 = 13
theorem nP {k i : Nat} (h : k < 12) : ¬ pO (k, i) := fun q => by rcases q with q | q <;> simp only at q <;> omega
theorem CAt.out {M M1 : Mm} {x : Nat} {S : St} (h : CAt M x S) (hF : Fr pO M M1) : CAt M1 x S := by
  have hb := h.b
  obtain ⟨b0, b1, b2, b3⟩ := hb
  obtain ⟨hn, hx⟩ := CAn.fr h hF (nP (by decide))
  have pt : ∀ c, c < 200 → ¬ pO (3, c) ∧ ¬ pO (7, 100 + 2 * c) ∧ ¬ pO (7, 101 + 2 * c) := fun c hc => ⟨nP (by decide), nP (by decide), nP (by decide)⟩
  have hL : ∀ a, mT M a = (7, 1) ∨ mT M a = (7, 2) ∨ mT M a = (7, 3) → mL M1 a = mL M a := fun a ha => ((hF a (by rcases ha with ha | ha | ha <;> rw [ha] <;> decide)).2 (by rcases ha with ha | ha | ha <;> rw [ha] <;> exact nP (by decide))).2.1
  exact (h.mk hF hx (nP (by decide)) (nP (by decide)) (nP (by decide)) hL hn (h.pdf hF (nP (by decide))) rfl rfl rfl b0 (fun i hi hv => hv.fr hF (nP (by decide)) (nP (by decide)) (fun c hc1 hc2 => pt c (by omega)))
    (fun i hi hv => hv.fr hF (nP (by decide)) (pt _ (by omega)).1 (pt _ (by omega)).2.1 (pt _ (by omega)).2.2) (fun i hi hv => hv.fr hF (nP (by decide)))).1
theorem Fr.pD {P : Nat × Nat → Prop} {M : Mm} {a k : Nat} {v : UInt64} (h : P (mT M a)) : Fr P M (pD M a k v) := fun b _ => ⟨rfl, fun hp => ⟨rfl, rfl, rfl, rfl, rfl, up2_row _ _ _ (fun e => hp (e ▸ h))⟩⟩
/-- the law's two cells for answers -/
def Ot (M : Mm) (o od : Nat) : Prop := mT M o = (12, 0) ∧ mL M o = 1 ∧ mT M od = (13, 0) ∧ mL M od = 1
theorem Ot.fr {P : Nat × Nat → Prop} {M M1 : Mm} {o od : Nat} (h : Ot M o od) (hF : Fr P M M1) (h1 : ¬ P (12, 0)) (h2 : ¬ P (13, 0)) : Ot M1 o od := by
  obtain ⟨a1, a2, a3, a4⟩ := h
  have e1 := (hF o (by rw [a1]; decide)).2 (by rw [a1]; exact h1)
  have e2 := (hF od (by rw [a3]; decide)).2 (by rw [a3]; exact h2)
  exact ⟨e1.1.trans a1, e1.2.1.trans a2, e2.1.trans a3, e2.2.1.trans a4⟩
/-- what a helper leaves, the answer told by f -/
def HQ (M : Mm) (x o od : Nat) (R : Res) (P : Mm → Prop) (r9 : Option Value) (M9 : Mm) : Prop := r9 = some (.int (nI R.1)) ∧ CAt M9 x R.2.2 ∧ Fr pX M M9 ∧ Ot M9 o od ∧ (R.1 = 0 → P M9)
