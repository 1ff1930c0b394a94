abbrev rm_X8_asAtFirst : Room := { frames := 0, cells := 0, slots := 0, locals := 0 }
theorem ds_X8_asAtFirst : descOk yX8_asAtFirst 1 := by decide +kernel
abbrev rm_X8_init : Room := { frames := 1, cells := 31, slots := 3238, locals := 40 }
theorem ds_X8_init : descOk yX8_init 0 := by decide +kernel
abbrev rm_X8_lies : Room := { frames := 0, cells := 0, slots := 0, locals := 0 }
theorem ds_X8_lies : descOk yX8_lies 3 := by decide +kernel
abbrev rm_X8_push : Room := { frames := 0, cells := 0, slots := 0, locals := 0 }
theorem ds_X8_push : descOk yX8_push 1 := by decide +kernel
abbrev rm_X8_feed : Room := { frames := 1, cells := 0, slots := 0, locals := 22 }
theorem ds_X8_feed : descOk yX8_feed 5 := by decide +kernel
abbrev rm_X8_letter : Room := { frames := 0, cells := 0, slots := 0, locals := 0 }
theorem ds_X8_letter : descOk yX8_letter 1 := by decide +kernel
abbrev rm_X8_canBe : Room := { frames := 1, cells := 0, slots := 0, locals := 25 }
theorem ds_X8_canBe : descOk yX8_canBe 2 := by decide +kernel
abbrev rm_X8_at : Room := { frames := 0, cells := 0, slots := 0, locals := 0 }
theorem ds_X8_at : descOk yX8_at 2 := by decide +kernel
abbrev rm_X8_reads : Room := { frames := 2, cells := 0, slots := 0, locals := 46 }
theorem ds_X8_reads : descOk yX8_reads 1 := by decide +kernel
abbrev rm_X8_edict : Room := { frames := 3, cells := 0, slots := 0, locals := 72 }
theorem ds_X8_edict : descOk yX8_edict 1 := by decide +kernel
abbrev rm_X8_rule : Room := { frames := 1, cells := 0, slots := 0, locals := 20 }
theorem ds_X8_rule : descOk yX8_rule 1 := by decide +kernel
abbrev rm_X8_town : Room := { frames := 1, cells := 0, slots := 0, locals := 25 }
theorem ds_X8_town : descOk yX8_town 3 := by decide +kernel
abbrev rm_X8_isTown : Room := { frames := 1, cells := 0, slots := 0, locals := 25 }
theorem ds_X8_isTown : descOk yX8_isTown 1 := by decide +kernel
abbrev rm_X8_road : Room := { frames := 2, cells := 0, slots := 0, locals := 46 }
theorem ds_X8_road : descOk yX8_road 4 := by decide +kernel
abbrev rm_X8_coin : Room := { frames := 1, cells := 0, slots := 0, locals := 25 }
theorem ds_X8_coin : descOk yX8_coin 1 := by decide +kernel
abbrev rm_X8_harvest : Room := { frames := 2, cells := 0, slots := 0, locals := 46 }
theorem ds_X8_harvest : descOk yX8_harvest 2 := by decide +kernel
abbrev rm_X8_trueIn : Room := { frames := 0, cells := 0, slots := 0, locals := 0 }
theorem ds_X8_trueIn : descOk yX8_trueIn 1 := by decide +kernel
abbrev rm_X8_bookIn : Room := { frames := 0, cells := 0, slots := 0, locals := 0 }
theorem ds_X8_bookIn : descOk yX8_bookIn 2 := by decide +kernel
abbrev rm_X8_goes : Room := { frames := 0, cells := 0, slots := 0, locals := 0 }
theorem ds_X8_goes : descOk yX8_goes 2 := by decide +kernel
abbrev rm_X8_takes : Room := { frames := 1, cells := 0, slots := 0, locals := 23 }
theorem ds_X8_takes : descOk yX8_takes 2 := by decide +kernel
abbrev rm_X8_comes : Room := { frames := 0, cells := 0, slots := 0, locals := 0 }
theorem ds_X8_comes : descOk yX8_comes 3 := by decide +kernel
abbrev rm_X8_least : Room := { frames := 0, cells := 0, slots := 0, locals := 0 }
theorem ds_X8_least : descOk yX8_least 2 := by decide +kernel
abbrev rm_X8_space : Room := { frames := 1, cells := 0, slots := 0, locals := 24 }
theorem ds_X8_space : descOk yX8_space 2 := by decide +kernel
abbrev rm_X8_price : Room := { frames := 0, cells := 0, slots := 0, locals := 0 }
theorem ds_X8_price : descOk yX8_price 2 := by decide +kernel
abbrev rm_X8_cartsCome : Room := { frames := 2, cells := 0, slots := 0, locals := 46 }
theorem ds_X8_cartsCome : descOk yX8_cartsCome 1 := by decide +kernel
abbrev rm_X8_harvests : Room := { frames := 2, cells := 0, slots := 0, locals := 46 }
theorem ds_X8_harvests : descOk yX8_harvests 2 := by decide +kernel
abbrev rm_X8_trades : Room := { frames := 2, cells := 0, slots := 0, locals := 50 }
theorem ds_X8_trades : descOk yX8_trades 3 := by decide +kernel
abbrev rm_X8_spoils : Room := { frames := 1, cells := 0, slots := 0, locals := 23 }
theorem ds_X8_spoils : descOk yX8_spoils 3 := by decide +kernel
abbrev rm_X8_turns : Room := { frames := 2, cells := 0, slots := 0, locals := 50 }
theorem ds_X8_turns : descOk yX8_turns 3 := by decide +kernel
abbrev rm_X8_goesBy : Room := { frames := 3, cells := 0, slots := 0, locals := 78 }
theorem ds_X8_goesBy : descOk yX8_goesBy 2 := by decide +kernel
abbrev rm_X8_step : Room := { frames := 4, cells := 0, slots := 0, locals := 104 }
theorem ds_X8_step : descOk yX8_step 1 := by decide +kernel
abbrev rm_X8_begins : Room := { frames := 0, cells := 0, slots := 0, locals := 0 }
theorem ds_X8_begins : descOk yX8_begins 2 := by decide +kernel
abbrev rm_X8_sends : Room := { frames := 2, cells := 0, slots := 0, locals := 50 }
theorem ds_X8_sends : descOk yX8_sends 4 := by decide +kernel
abbrev rm_X8_move : Room := { frames := 3, cells := 0, slots := 0, locals := 75 }
theorem ds_X8_move : descOk yX8_move 3 := by decide +kernel
abbrev rm_X8_loan : Room := { frames := 2, cells := 0, slots := 0, locals := 50 }
theorem ds_X8_loan : descOk yX8_loan 2 := by decide +kernel
abbrev rm_X8_steal : Room := { frames := 2, cells := 0, slots := 0, locals := 46 }
theorem ds_X8_steal : descOk yX8_steal 2 := by decide +kernel
abbrev rm_X8_measure : Room := { frames := 2, cells := 0, slots := 0, locals := 46 }
theorem ds_X8_measure : descOk yX8_measure 2 := by decide +kernel
abbrev rm_X8_missing : Room := { frames := 2, cells := 0, slots := 0, locals := 46 }
theorem ds_X8_missing : descOk yX8_missing 2 := by decide +kernel
abbrev rm_X8_copies : Room := { frames := 0, cells := 0, slots := 0, locals := 0 }
theorem ds_X8_copies : descOk yX8_copies 0 := by decide +kernel
abbrev rm_X8_hungerIn : Room := { frames := 0, cells := 0, slots := 0, locals := 0 }
theorem ds_X8_hungerIn : descOk yX8_hungerIn 1 := by decide +kernel
abbrev rm_X8_goesOn : Room := { frames := 4, cells := 0, slots := 0, locals := 104 }
theorem ds_X8_goesOn : descOk yX8_goesOn 1 := by decide +kernel
abbrev rm_X8_foretold : Room := { frames := 5, cells := 0, slots := 0, locals := 126 }
theorem ds_X8_foretold : descOk yX8_foretold 1 := by decide +kernel
abbrev rm_X8_best : Room := { frames := 5, cells := 0, slots := 0, locals := 126 }
theorem ds_X8_best : descOk yX8_best 2 := by decide +kernel
abbrev rm_X8_look : Room := { frames := 2, cells := 0, slots := 0, locals := 46 }
theorem ds_X8_look : descOk yX8_look 2 := by decide +kernel
abbrev rm_X8_lot : Room := { frames := 2, cells := 0, slots := 0, locals := 46 }
theorem ds_X8_lot : descOk yX8_lot 3 := by decide +kernel
abbrev rm_X8_count : Room := { frames := 1, cells := 0, slots := 0, locals := 25 }
theorem ds_X8_count : descOk yX8_count 1 := by decide +kernel
abbrev rm_X0_init : Room := { frames := 1, cells := 0, slots := 0, locals := 40 }
theorem ds_X0_init : descOk yX0_init 0 := by decide +kernel
abbrev rm_X0_size : Room := { frames := 0, cells := 0, slots := 0, locals := 0 }
theorem ds_X0_size : descOk yX0_size 0 := by decide +kernel
abbrev rm_X0_isFull : Room := { frames := 0, cells := 0, slots := 0, locals := 0 }
theorem ds_X0_isFull : descOk yX0_isFull 0 := by decide +kernel
abbrev rm_X0_add : Room := { frames := 1, cells := 0, slots := 0, locals := 20 }
theorem ds_X0_add : descOk yX0_add 3 := by decide +kernel
abbrev rm_X0_isThere : Room := { frames := 0, cells := 0, slots := 0, locals := 0 }
theorem ds_X0_isThere : descOk yX0_isThere 1 := by decide +kernel
abbrev rm_X0_arrives : Room := { frames := 1, cells := 0, slots := 0, locals := 21 }
theorem ds_X0_arrives : descOk yX0_arrives 2 := by decide +kernel
abbrev rm_X0_targetOf : Room := { frames := 1, cells := 0, slots := 0, locals := 21 }
theorem ds_X0_targetOf : descOk yX0_targetOf 1 := by decide +kernel
abbrev rm_X0_loadOf : Room := { frames := 1, cells := 0, slots := 0, locals := 21 }
theorem ds_X0_loadOf : descOk yX0_loadOf 1 := by decide +kernel
abbrev rm_X0_removeArrived : Room := { frames := 0, cells := 0, slots := 0, locals := 0 }
theorem ds_X0_removeArrived : descOk yX0_removeArrived 1 := by decide +kernel
abbrev rm_X0_loadInAll : Room := { frames := 0, cells := 0, slots := 0, locals := 0 }
theorem ds_X0_loadInAll : descOk yX0_loadInAll 0 := by decide +kernel
abbrev rm_X0_imitate : Room := { frames := 1, cells := 0, slots := 0, locals := 40 }
theorem ds_X0_imitate : descOk yX0_imitate 1 := by decide +kernel
abbrev rm_X1_init : Room := { frames := 1, cells := 0, slots := 0, locals := 40 }
theorem ds_X1_init : descOk yX1_init 0 := by decide +kernel
abbrev rm_J0_isLatin1_aae02 : Room := { frames := 0, cells := 0, slots := 0, locals := 0 }
theorem ds_J0_isLatin1_aae02 : descOk yJ0_isLatin1_aae02 0 := by decide +kernel
abbrev rm_J0_coder_7d493 : Room := { frames := 0, cells := 0, slots := 0, locals := 0 }
theorem ds_J0_coder_7d493 : descOk yJ0_coder_7d493 0 := by decide +kernel
abbrev rm_J0_length_8abf5 : Room := { frames := 1, cells := 0, slots := 0, locals := 20 }
theorem ds_J0_length_8abf5 : descOk yJ0_length_8abf5 0 := by decide +kernel
abbrev rm_J1_canEncode_9a6ad : Room := { frames := 0, cells := 0, slots := 0, locals := 0 }
theorem ds_J1_canEncode_9a6ad : descOk yJ1_canEncode_9a6ad 1 := by decide +kernel
abbrev rm_J1_indexOfChar_4cfef : Room := { frames := 0, cells := 0, slots := 0, locals := 0 }
theorem ds_J1_indexOfChar_4cfef : descOk yJ1_indexOfChar_4cfef 4 := by decide +kernel
abbrev rm_J1_indexOf_4cfef : Room := { frames := 1, cells := 0, slots := 0, locals := 40 }
theorem ds_J1_indexOf_4cfef : descOk yJ1_indexOf_4cfef 4 := by decide +kernel
abbrev rm_J0_indexOf_7cf53 : Room := { frames := 2, cells := 0, slots := 0, locals := 63 }
theorem ds_J0_indexOf_7cf53 : descOk yJ0_indexOf_7cf53 2 := by decide +kernel
abbrev rm_J0_indexOf_0f7a4 : Room := { frames := 3, cells := 0, slots := 0, locals := 85 }
theorem ds_J0_indexOf_0f7a4 : descOk yJ0_indexOf_0f7a4 1 := by decide +kernel
abbrev rm_X1_letterIndex : Room := { frames := 4, cells := 0, slots := 0, locals := 106 }
theorem ds_X1_letterIndex : descOk yX1_letterIndex 1 := by decide +kernel
abbrev rm_X1_number : Room := { frames := 0, cells := 0, slots := 0, locals := 0 }
theorem ds_X1_number : descOk yX1_number 1 := by decide +kernel
abbrev rm_X5_byteAt : Room := { frames := 0, cells := 0, slots := 0, locals := 0 }
theorem ds_X5_byteAt : descOk yX5_byteAt 1 := by decide +kernel
abbrev rm_X1_fault : Room := { frames := 0, cells := 0, slots := 0, locals := 0 }
theorem ds_X1_fault : descOk yX1_fault 2 := by decide +kernel
abbrev rm_X1_digitsEnd : Room := { frames := 1, cells := 0, slots := 0, locals := 21 }
theorem ds_X1_digitsEnd : descOk yX1_digitsEnd 3 := by decide +kernel
abbrev rm_X1_numberAt : Room := { frames := 1, cells := 0, slots := 0, locals := 21 }
theorem ds_X1_numberAt : descOk yX1_numberAt 3 := by decide +kernel
abbrev rm_X1_proclaim : Room := { frames := 5, cells := 0, slots := 0, locals := 126 }
theorem ds_X1_proclaim : descOk yX1_proclaim 2 := by decide +kernel
abbrev rm_Jxa1e45_init_da8c8 : Room := { frames := 1, cells := 0, slots := 0, locals := 40 }
theorem ds_Jxa1e45_init_da8c8 : descOk yJxa1e45_init_da8c8 0 := by decide +kernel
abbrev rm_Jxc12de_init_da8c8 : Room := { frames := 2, cells := 0, slots := 0, locals := 60 }
theorem ds_Jxc12de_init_da8c8 : descOk yJxc12de_init_da8c8 0 := by decide +kernel
abbrev rm_Jx4a65c_init_da8c8 : Room := { frames := 3, cells := 0, slots := 0, locals := 80 }
theorem ds_Jx4a65c_init_da8c8 : descOk yJx4a65c_init_da8c8 0 := by decide +kernel
abbrev rm_X2_init : Room := { frames := 4, cells := 0, slots := 0, locals := 100 }
theorem ds_X2_init : descOk yX2_init 0 := by decide +kernel
abbrev rm_Jx4a65c_size_8abf5 : Room := { frames := 0, cells := 0, slots := 0, locals := 0 }
theorem ds_Jx4a65c_size_8abf5 : descOk yJx4a65c_size_8abf5 0 := by decide +kernel
abbrev rm_X2_townCount : Room := { frames := 1, cells := 0, slots := 0, locals := 20 }
theorem ds_X2_townCount : descOk yX2_townCount 0 := by decide +kernel
abbrev rm_J3_checkIndex_8e157 : Room := { frames := 0, cells := 0, slots := 0, locals := 0 }
theorem ds_J3_checkIndex_8e157 : descOk yJ3_checkIndex_8e157 3 := by decide +kernel
abbrev rm_J15_checkIndex_7cf53 : Room := { frames := 1, cells := 0, slots := 0, locals := 22 }
theorem ds_J15_checkIndex_7cf53 : descOk yJ15_checkIndex_7cf53 2 := by decide +kernel
abbrev rm_Jx4a65c_elementData_915e3 : Room := { frames := 0, cells := 0, slots := 0, locals := 0 }
theorem ds_Jx4a65c_elementData_915e3 : descOk yJx4a65c_elementData_915e3 1 := by decide +kernel
abbrev rm_Jx4a65c_get_915e3 : Room := { frames := 2, cells := 0, slots := 0, locals := 43 }
theorem ds_Jx4a65c_get_915e3 : descOk yJx4a65c_get_915e3 1 := by decide +kernel
abbrev rm_X2_townAt : Room := { frames := 3, cells := 0, slots := 0, locals := 64 }
theorem ds_X2_townAt : descOk yX2_townAt 1 := by decide +kernel
abbrev rm_J8_newLength_cabcc : Room := { frames := 1, cells := 0, slots := 0, locals := 40 }
theorem ds_J8_newLength_cabcc : descOk yJ8_newLength_cabcc 3 := by decide +kernel
abbrev rm_J7_copyOf_6403c : Room := { frames := 1, cells := 0, slots := 0, locals := 40 }
theorem ds_J7_copyOf_6403c : descOk yJ7_copyOf_6403c 3 := by decide +kernel
abbrev rm_J7_copyOf_1904c : Room := { frames := 2, cells := 0, slots := 0, locals := 63 }
theorem ds_J7_copyOf_1904c : descOk yJ7_copyOf_1904c 2 := by decide +kernel
abbrev rm_Jx4a65c_grow_92f84 : Room := { frames := 3, cells := 0, slots := 0, locals := 84 }
theorem ds_Jx4a65c_grow_92f84 : descOk yJx4a65c_grow_92f84 1 := by decide +kernel
abbrev rm_Jx4a65c_grow_d5877 : Room := { frames := 4, cells := 0, slots := 0, locals := 107 }
theorem ds_Jx4a65c_grow_d5877 : descOk yJx4a65c_grow_d5877 0 := by decide +kernel
abbrev rm_Jx4a65c_add_72be8 : Room := { frames := 5, cells := 0, slots := 0, locals := 127 }
theorem ds_Jx4a65c_add_72be8 : descOk yJx4a65c_add_72be8 3 := by decide +kernel
abbrev rm_Jx4a65c_add_9ea2d : Room := { frames := 6, cells := 0, slots := 0, locals := 150 }
theorem ds_Jx4a65c_add_9ea2d : descOk yJx4a65c_add_9ea2d 1 := by decide +kernel
abbrev rm_X2_settle : Room := { frames := 7, cells := 0, slots := 0, locals := 171 }
theorem ds_X2_settle : descOk yX2_settle 1 := by decide +kernel
abbrev rm_X2_canSend : Room := { frames := 1, cells := 0, slots := 0, locals := 20 }
theorem ds_X2_canSend : descOk yX2_canSend 0 := by decide +kernel
abbrev rm_X4_hasLot : Room := { frames := 0, cells := 0, slots := 0, locals := 0 }
theorem ds_X4_hasLot : descOk yX4_hasLot 1 := by decide +kernel
abbrev rm_X4_lessen : Room := { frames := 1, cells := 0, slots := 0, locals := 21 }
theorem ds_X4_lessen : descOk yX4_lessen 2 := by decide +kernel
abbrev rm_X4_cut : Room := { frames := 1, cells := 0, slots := 0, locals := 40 }
theorem ds_X4_cut : descOk yX4_cut 2 := by decide +kernel
abbrev rm_X4_take : Room := { frames := 2, cells := 0, slots := 0, locals := 63 }
theorem ds_X4_take : descOk yX4_take 1 := by decide +kernel
abbrev rm_X3_otherEnd : Room := { frames := 0, cells := 0, slots := 0, locals := 0 }
theorem ds_X3_otherEnd : descOk yX3_otherEnd 1 := by decide +kernel
abbrev rm_X2_send : Room := { frames := 4, cells := 0, slots := 0, locals := 88 }
theorem ds_X2_send : descOk yX2_send 3 := by decide +kernel
abbrev rm_X2_measuresOnTheWay : Room := { frames := 1, cells := 0, slots := 0, locals := 23 }
theorem ds_X2_measuresOnTheWay : descOk yX2_measuresOnTheWay 0 := by decide +kernel
abbrev rm_X2_hungerEver : Room := { frames := 3, cells := 0, slots := 0, locals := 64 }
theorem ds_X2_hungerEver : descOk yX2_hungerEver 0 := by decide +kernel
abbrev rm_X4_space : Room := { frames := 0, cells := 0, slots := 0, locals := 0 }
theorem ds_X4_space : descOk yX4_space 0 := by decide +kernel
abbrev rm_X4_put : Room := { frames := 0, cells := 0, slots := 0, locals := 0 }
theorem ds_X4_put : descOk yX4_put 2 := by decide +kernel
abbrev rm_X6_receive : Room := { frames := 1, cells := 0, slots := 0, locals := 40 }
theorem ds_X6_receive : descOk yX6_receive 2 := by decide +kernel
abbrev rm_X2_unload : Room := { frames := 4, cells := 0, slots := 0, locals := 85 }
theorem ds_X2_unload : descOk yX2_unload 0 := by decide +kernel
abbrev rm_X6_reap : Room := { frames := 0, cells := 0, slots := 0, locals := 0 }
theorem ds_X6_reap : descOk yX6_reap 0 := by decide +kernel
abbrev rm_X6_payBack : Room := { frames := 1, cells := 0, slots := 0, locals := 40 }
theorem ds_X6_payBack : descOk yX6_payBack 1 := by decide +kernel
abbrev rm_X2_reapAndPayBack : Room := { frames := 3, cells := 0, slots := 0, locals := 64 }
theorem ds_X2_reapAndPayBack : descOk yX2_reapAndPayBack 0 := by decide +kernel
abbrev rm_X6_price : Room := { frames := 0, cells := 0, slots := 0, locals := 0 }
theorem ds_X6_price : descOk yX6_price 0 := by decide +kernel
abbrev rm_X6_buy : Room := { frames := 1, cells := 0, slots := 0, locals := 23 }
theorem ds_X6_buy : descOk yX6_buy 2 := by decide +kernel
abbrev rm_X4_held : Room := { frames := 0, cells := 0, slots := 0, locals := 0 }
theorem ds_X4_held : descOk yX4_held 0 := by decide +kernel
abbrev rm_X6_sell : Room := { frames := 3, cells := 0, slots := 0, locals := 88 }
theorem ds_X6_sell : descOk yX6_sell 1 := by decide +kernel
abbrev rm_X2_trade : Room := { frames := 4, cells := 0, slots := 0, locals := 109 }
theorem ds_X2_trade : descOk yX2_trade 2 := by decide +kernel
abbrev rm_X6_eat : Room := { frames := 1, cells := 0, slots := 0, locals := 40 }
theorem ds_X6_eat : descOk yX6_eat 0 := by decide +kernel
abbrev rm_X4_spoil : Room := { frames := 2, cells := 0, slots := 0, locals := 63 }
theorem ds_X4_spoil : descOk yX4_spoil 2 := by decide +kernel
abbrev rm_X6_spoilLots : Room := { frames := 3, cells := 0, slots := 0, locals := 90 }
theorem ds_X6_spoilLots : descOk yX6_spoilLots 2 := by decide +kernel
abbrev rm_X6_turnOver : Room := { frames := 3, cells := 0, slots := 0, locals := 88 }
theorem ds_X6_turnOver : descOk yX6_turnOver 2 := by decide +kernel
abbrev rm_X2_ageStores : Room := { frames := 4, cells := 0, slots := 0, locals := 112 }
theorem ds_X2_ageStores : descOk yX2_ageStores 1 := by decide +kernel
abbrev rm_X2_passMonths : Room := { frames := 5, cells := 0, slots := 0, locals := 137 }
theorem ds_X2_passMonths : descOk yX2_passMonths 2 := by decide +kernel
abbrev rm_X4_init : Room := { frames := 1, cells := 0, slots := 0, locals := 40 }
theorem ds_X4_init : descOk yX4_init 1 := by decide +kernel
abbrev rm_X6_init : Room := { frames := 2, cells := 0, slots := 0, locals := 61 }
theorem ds_X6_init : descOk yX6_init 3 := by decide +kernel
abbrev rm_X4_imitate : Room := { frames := 1, cells := 0, slots := 0, locals := 40 }
theorem ds_X4_imitate : descOk yX4_imitate 1 := by decide +kernel
abbrev rm_X6_imitate : Room := { frames := 2, cells := 0, slots := 0, locals := 61 }
theorem ds_X6_imitate : descOk yX6_imitate 1 := by decide +kernel
abbrev rm_X2_imitate : Room := { frames := 7, cells := 0, slots := 0, locals := 171 }
theorem ds_X2_imitate : descOk yX2_imitate 1 := by decide +kernel
abbrev rm_X3_init : Room := { frames := 1, cells := 0, slots := 0, locals := 40 }
theorem ds_X3_init : descOk yX3_init 4 := by decide +kernel
abbrev rm_X3_touches : Room := { frames := 0, cells := 0, slots := 0, locals := 0 }
theorem ds_X3_touches : descOk yX3_touches 1 := by decide +kernel
abbrev rm_X4_room : Room := { frames := 0, cells := 0, slots := 0, locals := 0 }
theorem ds_X4_room : descOk yX4_room 0 := by decide +kernel
abbrev rm_X4_lotCount : Room := { frames := 0, cells := 0, slots := 0, locals := 0 }
theorem ds_X4_lotCount : descOk yX4_lotCount 0 := by decide +kernel
abbrev rm_X4_foundEver : Room := { frames := 0, cells := 0, slots := 0, locals := 0 }
theorem ds_X4_foundEver : descOk yX4_foundEver 0 := by decide +kernel
abbrev rm_X4_monthOf : Room := { frames := 1, cells := 0, slots := 0, locals := 21 }
theorem ds_X4_monthOf : descOk yX4_monthOf 1 := by decide +kernel
abbrev rm_X4_bookOf : Room := { frames := 1, cells := 0, slots := 0, locals := 21 }
theorem ds_X4_bookOf : descOk yX4_bookOf 1 := by decide +kernel
abbrev rm_X4_measuredOf : Room := { frames := 1, cells := 0, slots := 0, locals := 21 }
theorem ds_X4_measuredOf : descOk yX4_measuredOf 1 := by decide +kernel
abbrev rm_X4_bookInAll : Room := { frames := 0, cells := 0, slots := 0, locals := 0 }
theorem ds_X4_bookInAll : descOk yX4_bookInAll 0 := by decide +kernel
abbrev rm_X4_unmeasuredBook : Room := { frames := 0, cells := 0, slots := 0, locals := 0 }
theorem ds_X4_unmeasuredBook : descOk yX4_unmeasuredBook 0 := by decide +kernel
abbrev rm_X4_pilfer : Room := { frames := 1, cells := 0, slots := 0, locals := 40 }
theorem ds_X4_pilfer : descOk yX4_pilfer 1 := by decide +kernel
abbrev rm_X4_audit : Room := { frames := 2, cells := 0, slots := 0, locals := 63 }
theorem ds_X4_audit : descOk yX4_audit 1 := by decide +kernel
abbrev rm_X5_init : Room := { frames := 1, cells := 0, slots := 0, locals := 40 }
theorem ds_X5_init : descOk yX5_init 0 := by decide +kernel
abbrev rm_X5_length : Room := { frames := 0, cells := 0, slots := 0, locals := 0 }
theorem ds_X5_length : descOk yX5_length 0 := by decide +kernel
abbrev rm_X5_hasRoomFor : Room := { frames := 0, cells := 0, slots := 0, locals := 0 }
theorem ds_X5_hasRoomFor : descOk yX5_hasRoomFor 1 := by decide +kernel
abbrev rm_X5_append : Room := { frames := 0, cells := 0, slots := 0, locals := 0 }
theorem ds_X5_append : descOk yX5_append 1 := by decide +kernel
abbrev rm_X5_wipe : Room := { frames := 0, cells := 0, slots := 0, locals := 0 }
theorem ds_X5_wipe : descOk yX5_wipe 0 := by decide +kernel
abbrev rm_X6_lend : Room := { frames := 3, cells := 0, slots := 0, locals := 88 }
theorem ds_X6_lend : descOk yX6_lend 2 := by decide +kernel
abbrev rm_X7_init : Room := { frames := 5, cells := 0, slots := 0, locals := 120 }
theorem ds_X7_init : descOk yX7_init 0 := by decide +kernel
abbrev rm_X7_feed : Room := { frames := 1, cells := 0, slots := 0, locals := 22 }
theorem ds_X7_feed : descOk yX7_feed 5 := by decide +kernel
abbrev rm_X7_edict : Room := { frames := 6, cells := 0, slots := 0, locals := 154 }
theorem ds_X7_edict : descOk yX7_edict 1 := by decide +kernel
abbrev rm_X7_rule : Room := { frames := 5, cells := 0, slots := 0, locals := 126 }
theorem ds_X7_rule : descOk yX7_rule 1 := by decide +kernel
abbrev rm_X7_isWithin : Room := { frames := 0, cells := 0, slots := 0, locals := 0 }
theorem ds_X7_isWithin : descOk yX7_isWithin 3 := by decide +kernel
abbrev rm_X7_town : Room := { frames := 8, cells := 0, slots := 0, locals := 192 }
theorem ds_X7_town : descOk yX7_town 3 := by decide +kernel
abbrev rm_X7_road : Room := { frames := 7, cells := 0, slots := 0, locals := 171 }
theorem ds_X7_road : descOk yX7_road 4 := by decide +kernel
abbrev rm_X7_coin : Room := { frames := 0, cells := 0, slots := 0, locals := 0 }
theorem ds_X7_coin : descOk yX7_coin 1 := by decide +kernel
abbrev rm_X7_harvest : Room := { frames := 4, cells := 0, slots := 0, locals := 85 }
theorem ds_X7_harvest : descOk yX7_harvest 2 := by decide +kernel
abbrev rm_X7_step : Room := { frames := 6, cells := 0, slots := 0, locals := 163 }
theorem ds_X7_step : descOk yX7_step 1 := by decide +kernel
abbrev rm_X7_roadAt : Room := { frames := 3, cells := 0, slots := 0, locals := 64 }
theorem ds_X7_roadAt : descOk yX7_roadAt 1 := by decide +kernel
abbrev rm_X7_movable : Room := { frames := 4, cells := 0, slots := 0, locals := 85 }
theorem ds_X7_movable : descOk yX7_movable 2 := by decide +kernel
abbrev rm_X7_move : Room := { frames := 5, cells := 0, slots := 0, locals := 112 }
theorem ds_X7_move : descOk yX7_move 3 := by decide +kernel
abbrev rm_X7_loan : Room := { frames := 4, cells := 0, slots := 0, locals := 110 }
theorem ds_X7_loan : descOk yX7_loan 2 := by decide +kernel
abbrev rm_X7_steal : Room := { frames := 4, cells := 0, slots := 0, locals := 85 }
theorem ds_X7_steal : descOk yX7_steal 2 := by decide +kernel
abbrev rm_X7_measure : Room := { frames := 4, cells := 0, slots := 0, locals := 85 }
theorem ds_X7_measure : descOk yX7_measure 2 := by decide +kernel
abbrev rm_X7_missing : Room := { frames := 4, cells := 0, slots := 0, locals := 85 }
theorem ds_X7_missing : descOk yX7_missing 2 := by decide +kernel
abbrev rm_X7_foretold : Room := { frames := 8, cells := 0, slots := 0, locals := 193 }
theorem ds_X7_foretold : descOk yX7_foretold 1 := by decide +kernel
abbrev rm_X7_best : Room := { frames := 8, cells := 0, slots := 0, locals := 193 }
theorem ds_X7_best : descOk yX7_best 2 := by decide +kernel
abbrev rm_X7_look : Room := { frames := 4, cells := 0, slots := 0, locals := 85 }
theorem ds_X7_look : descOk yX7_look 2 := by decide +kernel
abbrev rm_X7_lot : Room := { frames := 4, cells := 0, slots := 0, locals := 85 }
theorem ds_X7_lot : descOk yX7_lot 3 := by decide +kernel
abbrev rm_X7_takenByRoad : Room := { frames := 4, cells := 0, slots := 0, locals := 85 }
theorem ds_X7_takenByRoad : descOk yX7_takenByRoad 1 := by decide +kernel
abbrev rm_X7_count : Room := { frames := 5, cells := 0, slots := 0, locals := 107 }
theorem ds_X7_count : descOk yX7_count 1 := by decide +kernel
abbrev rm_J9_max_7cf53 : Room := { frames := 0, cells := 0, slots := 0, locals := 0 }
theorem ds_J9_max_7cf53 : descOk yJ9_max_7cf53 2 := by decide +kernel
abbrev rm_J9_min_7cf53 : Room := { frames := 0, cells := 0, slots := 0, locals := 0 }
theorem ds_J9_min_7cf53 : descOk yJ9_min_7cf53 2 := by decide +kernel
abbrev rm_J9_min_f86c9 : Room := { frames := 0, cells := 0, slots := 0, locals := 0 }
theorem ds_J9_min_f86c9 : descOk yJ9_min_f86c9 2 := by decide +kernel
