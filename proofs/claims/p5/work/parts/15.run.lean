def pg (mi : Nat) : List (Nat × PI) :=
  if mi < 50 then ([pgX0_init_0, pgX0_start_0, pgX0_probe_0, pgX0_isHeld_0, pgX0_mayDefend_0, pgX0_advance_0, pgX0_tellAgain_0, pgX1_init_0, pgX1_hear_0, pgX1_placeOf_0, pgX1_outdateOthers_0, pgX1_remove_0, pgX1_knownCount_0, pgX1_countOf_0, pgX1_entryOf_0, pgX2_init_0, pgX2_become_0, pgX2_begin_0, pgX2_die_0, pgX2_countRefresh_0, pgX2_plan_0, pgX2_isOf_0, pgX2_isTheOne_0, pgX2_isKnownTo_0, pgX2_view_0, pgX3_init_0, pgX3_start_0, pgX3_moveOn_0, pgX3_nextDue_0, pgX3_questionOf_0, pgX3_openQuestions_0, pgX3_serviceCountOf_0, pgX3_hasReply_0, pgX3_removeReply_0, pgX3_view_0, pgX4_init_0, pgX4_forget_0, pgX4_pause_0, pgX4_probe_0, pgX4_restart_0, pgX4_advance_0, pgX4_tellAgain_0, pgX4_isOf_0, pgX4_rename_0, pgX5_init_0, pgX5_start_0, pgX5_at_0, pgX5_put_0, pgX5_putNumber_0, pgX5_putWord_0] : List (List (Nat × PI))).getD (mi - 0) [] else
  if mi < 100 then ([pgX5_putAddressRecord_0, pgX5_putServiceRecord_0, pgX5_addWordPlace_0, pgX5_isWordPlace_0, pgX5_spells_0, pgX6_init_0, pgX6_start_0, pgX6_isOf_0, pgX6_isNear_0, pgX6_putOff_0, pgX7_init_0, pgX7_reads_0, pgX7_readClaim_0, pgX7_readAsk_0, pgX7_readAnswer_0, pgX7_readTelling_0, pgX7_readByte_0, pgX7_readPair_0, pgX7_readUpTo_0, pgX7_readSort_0, pgX7_readAddress_0, pgX7_readLife_0, pgX7_readWord_0, pgX7_readWordAgain_0, pgX7_tellsAddress_0, pgX7_tellsService_0, pgX8_init_0, pgX9_init_0, pgX10_init_0, pgX11_init_0, pgX11_isSign_0, pgX11_clear_0, pgX11_add_0, pgX11_copy_0, pgX11_at_0, pgX11_like_0, pgX12_init_0, pgX12_feed_0, pgX12_end_0, pgX12_tapeIsWord_0, pgX12_moveTapeTo_0, pgX12_on_0, pgX12_off_0, pgX12_claim_0, pgX12_service_0, pgX12_ask_0, pgX12_close_0, pgX12_lose_0, pgX12_give_0, pgX12_hostThatIsOn_0] : List (List (Nat × PI))).getD (mi - 50) [] else
  if mi < 150 then ([pgX12_openQuestion_0, pgX12_go_0, pgX12_split_0, pgX12_join_0, pgX12_deliverFirst_0, pgX12_nextDue_0, pgX12_actFirst_0, pgX12_act_0, pgX12_actAddress_0, pgX12_actName_0, pgX12_actEntry_0, pgX12_hear_0, pgX12_hearAddressProbe_0, pgX12_hearAddressTold_0, pgX12_hearNameProbe_0, pgX12_hearAnswer_0, pgX12_hearOfRival_0, pgX12_hearAsk_0, pgX12_planReply_0, pgX12_hasUntoldService_0, pgX12_newPacket_0, pgX12_send_0, pgX12_sendAddress_0, pgX12_sendNameProbe_0, pgX12_sendAsk_0, pgX12_tellAddress_0, pgX12_tellAll_0, pgX12_tellType_0, pgX12_sign_0, pgX12_answers_0, pgX12_found_0, pgX12_entry_0, pgX12_count_0, pgX12_holders_0, pgX12_sent_0, pgX13_init_0, pgX13_feed_0, pgX13_end_0, pgX13_small_0, pgX13_isSign_0, pgX13_alike_0, pgX13_same_0, pgX13_copy_0, pgX13_takesWord_0, pgX13_begin_0, pgX13_put_0, pgX13_putWord_0, pgX13_send_0, pgX13_address_0, pgX13_sendAddress_0] : List (List (Nat × PI))).getD (mi - 100) [] else
  if mi < 200 then ([pgX13_putOwn_0, pgX13_putService_0, pgX13_tells_0, pgX13_sendAsk_0, pgX13_probes_0, pgX13_movesOn_0, pgX13_probesName_0, pgX13_renames_0, pgX13_address1_0, pgX13_name1_0, pgX13_asks_0, pgX13_replies1_0, pgX13_entryDue_0, pgX13_entry1_0, pgX13_acts_0, pgX13_nextDue_0, pgX13_millisecond_0, pgX13_go_0, pgX13_take_0, pgX13_takeAddress_0, pgX13_takeWord_0, pgX13_takeTold_0, pgX13_takes_0, pgX13_aprobe_0, pgX13_atell_0, pgX13_nprobe_0, pgX13_ask1_0, pgX13_dies_0, pgX13_record_0, pgX13_isHost_0, pgX13_on_0, pgX13_forgets_0, pgX13_off_0, pgX13_claim_0, pgX13_service_0, pgX13_ask_0, pgX13_isOpen_0, pgX13_close_0, pgX13_split_0, pgX13_join_0, pgX13_lose_0, pgX13_give_0, pgX13_fails_0, pgX13_look_0, pgX13_sign_0, pgX13_foundAt_0, pgX13_answers_0, pgX13_found_0, pgX13_entry_0, pgX13_count_0] : List (List (Nat × PI))).getD (mi - 150) [] else
  ([pgX13_holders_0, pgX13_sent_0, pgX12_look_0] : List (List (Nat × PI))).getD (mi - 200) []
set_option maxRecDepth 100000 in
set_option maxHeartbeats 4000000 in
theorem okAll_0 (k : Nat) (h : k < 50) : (fun mi : Nat => okL mi (pg mi)) (0 + k) := by
  match k, h with
  | 0, _ => exact okX0_init_0
  | 1, _ => exact okX0_start_0
  | 2, _ => exact okX0_probe_0
  | 3, _ => exact okX0_isHeld_0
  | 4, _ => exact okX0_mayDefend_0
  | 5, _ => exact okX0_advance_0
  | 6, _ => exact okX0_tellAgain_0
  | 7, _ => exact okX1_init_0
  | 8, _ => exact okX1_hear_0
  | 9, _ => exact okX1_placeOf_0
  | 10, _ => exact okX1_outdateOthers_0
  | 11, _ => exact okX1_remove_0
  | 12, _ => exact okX1_knownCount_0
  | 13, _ => exact okX1_countOf_0
  | 14, _ => exact okX1_entryOf_0
  | 15, _ => exact okX2_init_0
  | 16, _ => exact okX2_become_0
  | 17, _ => exact okX2_begin_0
  | 18, _ => exact okX2_die_0
  | 19, _ => exact okX2_countRefresh_0
  | 20, _ => exact okX2_plan_0
  | 21, _ => exact okX2_isOf_0
  | 22, _ => exact okX2_isTheOne_0
  | 23, _ => exact okX2_isKnownTo_0
  | 24, _ => exact okX2_view_0
  | 25, _ => exact okX3_init_0
  | 26, _ => exact okX3_start_0
  | 27, _ => exact okX3_moveOn_0
  | 28, _ => exact okX3_nextDue_0
  | 29, _ => exact okX3_questionOf_0
  | 30, _ => exact okX3_openQuestions_0
  | 31, _ => exact okX3_serviceCountOf_0
  | 32, _ => exact okX3_hasReply_0
  | 33, _ => exact okX3_removeReply_0
  | 34, _ => exact okX3_view_0
  | 35, _ => exact okX4_init_0
  | 36, _ => exact okX4_forget_0
  | 37, _ => exact okX4_pause_0
  | 38, _ => exact okX4_probe_0
  | 39, _ => exact okX4_restart_0
  | 40, _ => exact okX4_advance_0
  | 41, _ => exact okX4_tellAgain_0
  | 42, _ => exact okX4_isOf_0
  | 43, _ => exact okX4_rename_0
  | 44, _ => exact okX5_init_0
  | 45, _ => exact okX5_start_0
  | 46, _ => exact okX5_at_0
  | 47, _ => exact okX5_put_0
  | 48, _ => exact okX5_putNumber_0
  | 49, _ => exact okX5_putWord_0
  | k + 50, h => exact absurd h (by omega)
set_option maxRecDepth 100000 in
set_option maxHeartbeats 4000000 in
theorem okAll_1 (k : Nat) (h : k < 50) : (fun mi : Nat => okL mi (pg mi)) (50 + k) := by
  match k, h with
  | 0, _ => exact okX5_putAddressRecord_0
  | 1, _ => exact okX5_putServiceRecord_0
  | 2, _ => exact okX5_addWordPlace_0
  | 3, _ => exact okX5_isWordPlace_0
  | 4, _ => exact okX5_spells_0
  | 5, _ => exact okX6_init_0
  | 6, _ => exact okX6_start_0
  | 7, _ => exact okX6_isOf_0
  | 8, _ => exact okX6_isNear_0
  | 9, _ => exact okX6_putOff_0
  | 10, _ => exact okX7_init_0
  | 11, _ => exact okX7_reads_0
  | 12, _ => exact okX7_readClaim_0
  | 13, _ => exact okX7_readAsk_0
  | 14, _ => exact okX7_readAnswer_0
  | 15, _ => exact okX7_readTelling_0
  | 16, _ => exact okX7_readByte_0
  | 17, _ => exact okX7_readPair_0
  | 18, _ => exact okX7_readUpTo_0
  | 19, _ => exact okX7_readSort_0
  | 20, _ => exact okX7_readAddress_0
  | 21, _ => exact okX7_readLife_0
  | 22, _ => exact okX7_readWord_0
  | 23, _ => exact okX7_readWordAgain_0
  | 24, _ => exact okX7_tellsAddress_0
  | 25, _ => exact okX7_tellsService_0
  | 26, _ => exact okX8_init_0
  | 27, _ => exact okX9_init_0
  | 28, _ => exact okX10_init_0
  | 29, _ => exact okX11_init_0
  | 30, _ => exact okX11_isSign_0
  | 31, _ => exact okX11_clear_0
  | 32, _ => exact okX11_add_0
  | 33, _ => exact okX11_copy_0
  | 34, _ => exact okX11_at_0
  | 35, _ => exact okX11_like_0
  | 36, _ => exact okX12_init_0
  | 37, _ => exact okX12_feed_0
  | 38, _ => exact okX12_end_0
  | 39, _ => exact okX12_tapeIsWord_0
  | 40, _ => exact okX12_moveTapeTo_0
  | 41, _ => exact okX12_on_0
  | 42, _ => exact okX12_off_0
  | 43, _ => exact okX12_claim_0
  | 44, _ => exact okX12_service_0
  | 45, _ => exact okX12_ask_0
  | 46, _ => exact okX12_close_0
  | 47, _ => exact okX12_lose_0
  | 48, _ => exact okX12_give_0
  | 49, _ => exact okX12_hostThatIsOn_0
  | k + 50, h => exact absurd h (by omega)
set_option maxRecDepth 100000 in
set_option maxHeartbeats 4000000 in
theorem okAll_2 (k : Nat) (h : k < 50) : (fun mi : Nat => okL mi (pg mi)) (100 + k) := by
  match k, h with
  | 0, _ => exact okX12_openQuestion_0
  | 1, _ => exact okX12_go_0
  | 2, _ => exact okX12_split_0
  | 3, _ => exact okX12_join_0
  | 4, _ => exact okX12_deliverFirst_0
  | 5, _ => exact okX12_nextDue_0
  | 6, _ => exact okX12_actFirst_0
  | 7, _ => exact okX12_act_0
  | 8, _ => exact okX12_actAddress_0
  | 9, _ => exact okX12_actName_0
  | 10, _ => exact okX12_actEntry_0
  | 11, _ => exact okX12_hear_0
  | 12, _ => exact okX12_hearAddressProbe_0
  | 13, _ => exact okX12_hearAddressTold_0
  | 14, _ => exact okX12_hearNameProbe_0
  | 15, _ => exact okX12_hearAnswer_0
  | 16, _ => exact okX12_hearOfRival_0
  | 17, _ => exact okX12_hearAsk_0
  | 18, _ => exact okX12_planReply_0
  | 19, _ => exact okX12_hasUntoldService_0
  | 20, _ => exact okX12_newPacket_0
  | 21, _ => exact okX12_send_0
  | 22, _ => exact okX12_sendAddress_0
  | 23, _ => exact okX12_sendNameProbe_0
  | 24, _ => exact okX12_sendAsk_0
  | 25, _ => exact okX12_tellAddress_0
  | 26, _ => exact okX12_tellAll_0
  | 27, _ => exact okX12_tellType_0
  | 28, _ => exact okX12_sign_0
  | 29, _ => exact okX12_answers_0
  | 30, _ => exact okX12_found_0
  | 31, _ => exact okX12_entry_0
  | 32, _ => exact okX12_count_0
  | 33, _ => exact okX12_holders_0
  | 34, _ => exact okX12_sent_0
  | 35, _ => exact okX13_init_0
  | 36, _ => exact okX13_feed_0
  | 37, _ => exact okX13_end_0
  | 38, _ => exact okX13_small_0
  | 39, _ => exact okX13_isSign_0
  | 40, _ => exact okX13_alike_0
  | 41, _ => exact okX13_same_0
  | 42, _ => exact okX13_copy_0
  | 43, _ => exact okX13_takesWord_0
  | 44, _ => exact okX13_begin_0
  | 45, _ => exact okX13_put_0
  | 46, _ => exact okX13_putWord_0
  | 47, _ => exact okX13_send_0
  | 48, _ => exact okX13_address_0
  | 49, _ => exact okX13_sendAddress_0
  | k + 50, h => exact absurd h (by omega)
set_option maxRecDepth 100000 in
set_option maxHeartbeats 4000000 in
theorem okAll_3 (k : Nat) (h : k < 50) : (fun mi : Nat => okL mi (pg mi)) (150 + k) := by
  match k, h with
  | 0, _ => exact okX13_putOwn_0
  | 1, _ => exact okX13_putService_0
  | 2, _ => exact okX13_tells_0
  | 3, _ => exact okX13_sendAsk_0
  | 4, _ => exact okX13_probes_0
  | 5, _ => exact okX13_movesOn_0
  | 6, _ => exact okX13_probesName_0
  | 7, _ => exact okX13_renames_0
  | 8, _ => exact okX13_address1_0
  | 9, _ => exact okX13_name1_0
  | 10, _ => exact okX13_asks_0
  | 11, _ => exact okX13_replies1_0
  | 12, _ => exact okX13_entryDue_0
  | 13, _ => exact okX13_entry1_0
  | 14, _ => exact okX13_acts_0
  | 15, _ => exact okX13_nextDue_0
  | 16, _ => exact okX13_millisecond_0
  | 17, _ => exact okX13_go_0
  | 18, _ => exact okX13_take_0
  | 19, _ => exact okX13_takeAddress_0
  | 20, _ => exact okX13_takeWord_0
  | 21, _ => exact okX13_takeTold_0
  | 22, _ => exact okX13_takes_0
  | 23, _ => exact okX13_aprobe_0
  | 24, _ => exact okX13_atell_0
  | 25, _ => exact okX13_nprobe_0
  | 26, _ => exact okX13_ask1_0
  | 27, _ => exact okX13_dies_0
  | 28, _ => exact okX13_record_0
  | 29, _ => exact okX13_isHost_0
  | 30, _ => exact okX13_on_0
  | 31, _ => exact okX13_forgets_0
  | 32, _ => exact okX13_off_0
  | 33, _ => exact okX13_claim_0
  | 34, _ => exact okX13_service_0
  | 35, _ => exact okX13_ask_0
  | 36, _ => exact okX13_isOpen_0
  | 37, _ => exact okX13_close_0
  | 38, _ => exact okX13_split_0
  | 39, _ => exact okX13_join_0
  | 40, _ => exact okX13_lose_0
  | 41, _ => exact okX13_give_0
  | 42, _ => exact okX13_fails_0
  | 43, _ => exact okX13_look_0
  | 44, _ => exact okX13_sign_0
  | 45, _ => exact okX13_foundAt_0
  | 46, _ => exact okX13_answers_0
  | 47, _ => exact okX13_found_0
  | 48, _ => exact okX13_entry_0
  | 49, _ => exact okX13_count_0
  | k + 50, h => exact absurd h (by omega)
set_option maxRecDepth 100000 in
set_option maxHeartbeats 4000000 in
theorem okAll_4 (k : Nat) (h : k < 3) : (fun mi : Nat => okL mi (pg mi)) (200 + k) := by
  match k, h with
  | 0, _ => exact okX13_holders_0
  | 1, _ => exact okX13_sent_0
  | 2, _ => exact okX12_look_0
  | k + 3, h => exact absurd h (by omega)
set_option maxRecDepth 100000 in
set_option maxHeartbeats 4000000 in
theorem okAll (mi : Nat) (h : mi < 203) : okL mi (pg mi) := by
  by_cases h0 : mi < 50
  · have := okAll_0 (mi - 0) (by omega); rw [show 0 + (mi - 0) = mi by omega] at this; exact this
  by_cases h1 : mi < 100
  · have := okAll_1 (mi - 50) (by omega); rw [show 50 + (mi - 50) = mi by omega] at this; exact this
  by_cases h2 : mi < 150
  · have := okAll_2 (mi - 100) (by omega); rw [show 100 + (mi - 100) = mi by omega] at this; exact this
  by_cases h3 : mi < 200
  · have := okAll_3 (mi - 150) (by omega); rw [show 150 + (mi - 150) = mi by omega] at this; exact this
  have := okAll_4 (mi - 200) (by omega); rw [show 200 + (mi - 200) = mi by omega] at this; exact this
set_option maxRecDepth 100000 in
set_option maxHeartbeats 4000000 in
theorem mOk_0 (k : Nat) (h : k < 50) : (fun mi : Nat => (plainName (yy mi).cls = true ∧ (yy mi).cls = RS (ow mi)) ∧ Cond.code (yy mi) (mcc mi) (mL mi) (rt mi) ∈ xG ∧ Cond.initialized (yy mi).cls ∈ xG ∧ (yy mi).cls ≠ "java/lang/invoke/MethodHandle" ∧ (yy mi).cls ≠ "java/lang/invoke/VarHandle" ∧ (parseMethodDescriptor (yy mi).desc).map (fun d => d.parameters.length) = some (npar mi)) (0 + k) := by
  match k, h with
  | 0, _ => exact ⟨⟨by decide, rfl⟩, gw181, gw7, by decide +kernel⟩
  | 1, _ => exact ⟨⟨by decide, rfl⟩, gw516, gw7, by decide +kernel⟩
  | 2, _ => exact ⟨⟨by decide, rfl⟩, gw520, gw7, by decide +kernel⟩
  | 3, _ => exact ⟨⟨by decide, rfl⟩, gw611, gw7, by decide +kernel⟩
  | 4, _ => exact ⟨⟨by decide, rfl⟩, gw732, gw7, by decide +kernel⟩
  | 5, _ => exact ⟨⟨by decide, rfl⟩, gw885, gw7, by decide +kernel⟩
  | 6, _ => exact ⟨⟨by decide, rfl⟩, gw966, gw7, by decide +kernel⟩
  | 7, _ => exact ⟨⟨by decide, rfl⟩, gw255, gw9, by decide +kernel⟩
  | 8, _ => exact ⟨⟨by decide, rfl⟩, gw809, gw9, by decide +kernel⟩
  | 9, _ => exact ⟨⟨by decide, rfl⟩, gw813, gw9, by decide +kernel⟩
  | 10, _ => exact ⟨⟨by decide, rfl⟩, gw844, gw9, by decide +kernel⟩
  | 11, _ => exact ⟨⟨by decide, rfl⟩, gw934, gw9, by decide +kernel⟩
  | 12, _ => exact ⟨⟨by decide, rfl⟩, gw908, gw9, by decide +kernel⟩
  | 13, _ => exact ⟨⟨by decide, rfl⟩, gw986, gw9, by decide +kernel⟩
  | 14, _ => exact ⟨⟨by decide, rfl⟩, gw994, gw9, by decide +kernel⟩
  | 15, _ => exact ⟨⟨by decide, rfl⟩, gw262, gw10, by decide +kernel⟩
  | 16, _ => exact ⟨⟨by decide, rfl⟩, gw835, gw10, by decide +kernel⟩
  | 17, _ => exact ⟨⟨by decide, rfl⟩, gw840, gw10, by decide +kernel⟩
  | 18, _ => exact ⟨⟨by decide, rfl⟩, gw822, gw10, by decide +kernel⟩
  | 19, _ => exact ⟨⟨by decide, rfl⟩, gw938, gw10, by decide +kernel⟩
  | 20, _ => exact ⟨⟨by decide, rfl⟩, gw830, gw10, by decide +kernel⟩
  | 21, _ => exact ⟨⟨by decide, rfl⟩, gw849, gw10, by decide +kernel⟩
  | 22, _ => exact ⟨⟨by decide, rfl⟩, gw817, gw10, by decide +kernel⟩
  | 23, _ => exact ⟨⟨by decide, rfl⟩, gw912, gw10, by decide +kernel⟩
  | 24, _ => exact ⟨⟨by decide, rfl⟩, gw1002, gw10, by decide +kernel⟩
  | 25, _ => exact ⟨⟨by decide, rfl⟩, gw175, gw6, by decide +kernel⟩
  | 26, _ => exact ⟨⟨by decide, rfl⟩, gw508, gw6, by decide +kernel⟩
  | 27, _ => exact ⟨⟨by decide, rfl⟩, gw722, gw6, by decide +kernel⟩
  | 28, _ => exact ⟨⟨by decide, rfl⟩, gw952, gw6, by decide +kernel⟩
  | 29, _ => exact ⟨⟨by decide, rfl⟩, gw942, gw6, by decide +kernel⟩
  | 30, _ => exact ⟨⟨by decide, rfl⟩, gw1114, gw6, by decide +kernel⟩
  | 31, _ => exact ⟨⟨by decide, rfl⟩, gw922, gw6, by decide +kernel⟩
  | 32, _ => exact ⟨⟨by decide, rfl⟩, gw785, gw6, by decide +kernel⟩
  | 33, _ => exact ⟨⟨by decide, rfl⟩, gw926, gw6, by decide +kernel⟩
  | 34, _ => exact ⟨⟨by decide, rfl⟩, gw1109, gw6, by decide +kernel⟩
  | 35, _ => exact ⟨⟨by decide, rfl⟩, gw213, gw8, by decide +kernel⟩
  | 36, _ => exact ⟨⟨by decide, rfl⟩, gw512, gw8, by decide +kernel⟩
  | 37, _ => exact ⟨⟨by decide, rfl⟩, gw607, gw8, by decide +kernel⟩
  | 38, _ => exact ⟨⟨by decide, rfl⟩, gw615, gw8, by decide +kernel⟩
  | 39, _ => exact ⟨⟨by decide, rfl⟩, gw754, gw8, by decide +kernel⟩
  | 40, _ => exact ⟨⟨by decide, rfl⟩, gw899, gw8, by decide +kernel⟩
  | 41, _ => exact ⟨⟨by decide, rfl⟩, gw970, gw8, by decide +kernel⟩
  | 42, _ => exact ⟨⟨by decide, rfl⟩, gw741, gw8, by decide +kernel⟩
  | 43, _ => exact ⟨⟨by decide, rfl⟩, gw857, gw8, by decide +kernel⟩
  | 44, _ => exact ⟨⟨by decide, rfl⟩, gw35, gw2, by decide +kernel⟩
  | 45, _ => exact ⟨⟨by decide, rfl⟩, gw546, gw2, by decide +kernel⟩
  | 46, _ => exact ⟨⟨by decide, rfl⟩, gw584, gw2, by decide +kernel⟩
  | 47, _ => exact ⟨⟨by decide, rfl⟩, gw495, gw2, by decide +kernel⟩
  | 48, _ => exact ⟨⟨by decide, rfl⟩, gw491, gw2, by decide +kernel⟩
  | 49, _ => exact ⟨⟨by decide, rfl⟩, gw556, gw2, by decide +kernel⟩
  | k + 50, h => exact absurd h (by omega)
set_option maxRecDepth 100000 in
set_option maxHeartbeats 4000000 in
theorem mOk_1 (k : Nat) (h : k < 50) : (fun mi : Nat => (plainName (yy mi).cls = true ∧ (yy mi).cls = RS (ow mi)) ∧ Cond.code (yy mi) (mcc mi) (mL mi) (rt mi) ∈ xG ∧ Cond.initialized (yy mi).cls ∈ xG ∧ (yy mi).cls ≠ "java/lang/invoke/MethodHandle" ∧ (yy mi).cls ≠ "java/lang/invoke/VarHandle" ∧ (parseMethodDescriptor (yy mi).desc).map (fun d => d.parameters.length) = some (npar mi)) (50 + k) := by
  match k, h with
  | 0, _ => exact ⟨⟨by decide, rfl⟩, gw551, gw2, by decide +kernel⟩
  | 1, _ => exact ⟨⟨by decide, rfl⟩, gw568, gw2, by decide +kernel⟩
  | 2, _ => exact ⟨⟨by decide, rfl⟩, gw564, gw2, by decide +kernel⟩
  | 3, _ => exact ⟨⟨by decide, rfl⟩, gw678, gw2, by decide +kernel⟩
  | 4, _ => exact ⟨⟨by decide, rfl⟩, gw560, gw2, by decide +kernel⟩
  | 5, _ => exact ⟨⟨by decide, rfl⟩, gw338, gw12, by decide +kernel⟩
  | 6, _ => exact ⟨⟨by decide, rfl⟩, gw627, gw12, by decide +kernel⟩
  | 7, _ => exact ⟨⟨by decide, rfl⟩, gw763, gw12, by decide +kernel⟩
  | 8, _ => exact ⟨⟨by decide, rfl⟩, gw768, gw12, by decide +kernel⟩
  | 9, _ => exact ⟨⟨by decide, rfl⟩, gw773, gw12, by decide +kernel⟩
  | 10, _ => exact ⟨⟨by decide, rfl⟩, gw68, gw3, by decide +kernel⟩
  | 11, _ => exact ⟨⟨by decide, rfl⟩, gw648, gw3, by decide +kernel⟩
  | 12, _ => exact ⟨⟨by decide, rfl⟩, gw656, gw3, by decide +kernel⟩
  | 13, _ => exact ⟨⟨by decide, rfl⟩, gw686, gw3, by decide +kernel⟩
  | 14, _ => exact ⟨⟨by decide, rfl⟩, gw702, gw3, by decide +kernel⟩
  | 15, _ => exact ⟨⟨by decide, rfl⟩, gw698, gw3, by decide +kernel⟩
  | 16, _ => exact ⟨⟨by decide, rfl⟩, gw652, gw3, by decide +kernel⟩
  | 17, _ => exact ⟨⟨by decide, rfl⟩, gw664, gw3, by decide +kernel⟩
  | 18, _ => exact ⟨⟨by decide, rfl⟩, gw694, gw3, by decide +kernel⟩
  | 19, _ => exact ⟨⟨by decide, rfl⟩, gw690, gw3, by decide +kernel⟩
  | 20, _ => exact ⟨⟨by decide, rfl⟩, gw660, gw3, by decide +kernel⟩
  | 21, _ => exact ⟨⟨by decide, rfl⟩, gw706, gw3, by decide +kernel⟩
  | 22, _ => exact ⟨⟨by decide, rfl⟩, gw669, gw3, by decide +kernel⟩
  | 23, _ => exact ⟨⟨by decide, rfl⟩, gw674, gw3, by decide +kernel⟩
  | 24, _ => exact ⟨⟨by decide, rfl⟩, gw801, gw3, by decide +kernel⟩
  | 25, _ => exact ⟨⟨by decide, rfl⟩, gw795, gw3, by decide +kernel⟩
  | 26, _ => exact ⟨⟨by decide, rfl⟩, gw371, gw13, by decide +kernel⟩
  | 27, _ => exact ⟨⟨by decide, rfl⟩, gw319, gw11, by decide +kernel⟩
  | 28, _ => exact ⟨⟨by decide, rfl⟩, gw94, gw5, by decide +kernel⟩
  | 29, _ => exact ⟨⟨by decide, rfl⟩, gw76, gw4, by decide +kernel⟩
  | 30, _ => exact ⟨⟨by decide, rfl⟩, gw587, gw4, by decide +kernel⟩
  | 31, _ => exact ⟨⟨by decide, rfl⟩, gw595, gw4, by decide +kernel⟩
  | 32, _ => exact ⟨⟨by decide, rfl⟩, gw599, gw4, by decide +kernel⟩
  | 33, _ => exact ⟨⟨by decide, rfl⟩, gw603, gw4, by decide +kernel⟩
  | 34, _ => exact ⟨⟨by decide, rfl⟩, gw978, gw4, by decide +kernel⟩
  | 35, _ => exact ⟨⟨by decide, rfl⟩, gw745, gw4, by decide +kernel⟩
  | 36, _ => exact ⟨⟨by decide, rfl⟩, gw25, gw1, by decide +kernel⟩
  | 37, _ => exact ⟨⟨by decide, rfl⟩, gw487, gw1, by decide +kernel⟩
  | 38, _ => exact ⟨⟨by decide, rfl⟩, gw499, gw1, by decide +kernel⟩
  | 39, _ => exact ⟨⟨by decide, rfl⟩, gw580, gw1, by decide +kernel⟩
  | 40, _ => exact ⟨⟨by decide, rfl⟩, gw591, gw1, by decide +kernel⟩
  | 41, _ => exact ⟨⟨by decide, rfl⟩, gw503, gw1, by decide +kernel⟩
  | 42, _ => exact ⟨⟨by decide, rfl⟩, gw530, gw1, by decide +kernel⟩
  | 43, _ => exact ⟨⟨by decide, rfl⟩, gw576, gw1, by decide +kernel⟩
  | 44, _ => exact ⟨⟨by decide, rfl⟩, gw619, gw1, by decide +kernel⟩
  | 45, _ => exact ⟨⟨by decide, rfl⟩, gw623, gw1, by decide +kernel⟩
  | 46, _ => exact ⟨⟨by decide, rfl⟩, gw632, gw1, by decide +kernel⟩
  | 47, _ => exact ⟨⟨by decide, rfl⟩, gw640, gw1, by decide +kernel⟩
  | 48, _ => exact ⟨⟨by decide, rfl⟩, gw644, gw1, by decide +kernel⟩
  | 49, _ => exact ⟨⟨by decide, rfl⟩, gw534, gw1, by decide +kernel⟩
  | k + 50, h => exact absurd h (by omega)
set_option maxRecDepth 100000 in
set_option maxHeartbeats 4000000 in
theorem mOk_2 (k : Nat) (h : k < 50) : (fun mi : Nat => (plainName (yy mi).cls = true ∧ (yy mi).cls = RS (ow mi)) ∧ Cond.code (yy mi) (mcc mi) (mL mi) (rt mi) ∈ xG ∧ Cond.initialized (yy mi).cls ∈ xG ∧ (yy mi).cls ≠ "java/lang/invoke/MethodHandle" ∧ (yy mi).cls ≠ "java/lang/invoke/VarHandle" ∧ (parseMethodDescriptor (yy mi).desc).map (fun d => d.parameters.length) = some (npar mi)) (100 + k) := by
  match k, h with
  | 0, _ => exact ⟨⟨by decide, rfl⟩, gw636, gw1, by decide +kernel⟩
  | 1, _ => exact ⟨⟨by decide, rfl⟩, gw864, gw1, by decide +kernel⟩
  | 2, _ => exact ⟨⟨by decide, rfl⟩, gw958, gw1, by decide +kernel⟩
  | 3, _ => exact ⟨⟨by decide, rfl⟩, gw962, gw1, by decide +kernel⟩
  | 4, _ => exact ⟨⟨by decide, rfl⟩, gw869, gw1, by decide +kernel⟩
  | 5, _ => exact ⟨⟨by decide, rfl⟩, gw947, gw1, by decide +kernel⟩
  | 6, _ => exact ⟨⟨by decide, rfl⟩, gw873, gw1, by decide +kernel⟩
  | 7, _ => exact ⟨⟨by decide, rfl⟩, gw877, gw1, by decide +kernel⟩
  | 8, _ => exact ⟨⟨by decide, rfl⟩, gw881, gw1, by decide +kernel⟩
  | 9, _ => exact ⟨⟨by decide, rfl⟩, gw890, gw1, by decide +kernel⟩
  | 10, _ => exact ⟨⟨by decide, rfl⟩, gw930, gw1, by decide +kernel⟩
  | 11, _ => exact ⟨⟨by decide, rfl⟩, gw710, gw1, by decide +kernel⟩
  | 12, _ => exact ⟨⟨by decide, rfl⟩, gw714, gw1, by decide +kernel⟩
  | 13, _ => exact ⟨⟨by decide, rfl⟩, gw728, gw1, by decide +kernel⟩
  | 14, _ => exact ⟨⟨by decide, rfl⟩, gw737, gw1, by decide +kernel⟩
  | 15, _ => exact ⟨⟨by decide, rfl⟩, gw805, gw1, by decide +kernel⟩
  | 16, _ => exact ⟨⟨by decide, rfl⟩, gw853, gw1, by decide +kernel⟩
  | 17, _ => exact ⟨⟨by decide, rfl⟩, gw759, gw1, by decide +kernel⟩
  | 18, _ => exact ⟨⟨by decide, rfl⟩, gw781, gw1, by decide +kernel⟩
  | 19, _ => exact ⟨⟨by decide, rfl⟩, gw790, gw1, by decide +kernel⟩
  | 20, _ => exact ⟨⟨by decide, rfl⟩, gw542, gw1, by decide +kernel⟩
  | 21, _ => exact ⟨⟨by decide, rfl⟩, gw572, gw1, by decide +kernel⟩
  | 22, _ => exact ⟨⟨by decide, rfl⟩, gw718, gw1, by decide +kernel⟩
  | 23, _ => exact ⟨⟨by decide, rfl⟩, gw894, gw1, by decide +kernel⟩
  | 24, _ => exact ⟨⟨by decide, rfl⟩, gw904, gw1, by decide +kernel⟩
  | 25, _ => exact ⟨⟨by decide, rfl⟩, gw749, gw1, by decide +kernel⟩
  | 26, _ => exact ⟨⟨by decide, rfl⟩, gw538, gw1, by decide +kernel⟩
  | 27, _ => exact ⟨⟨by decide, rfl⟩, gw918, gw1, by decide +kernel⟩
  | 28, _ => exact ⟨⟨by decide, rfl⟩, gw974, gw1, by decide +kernel⟩
  | 29, _ => exact ⟨⟨by decide, rfl⟩, gw982, gw1, by decide +kernel⟩
  | 30, _ => exact ⟨⟨by decide, rfl⟩, gw990, gw1, by decide +kernel⟩
  | 31, _ => exact ⟨⟨by decide, rfl⟩, gw998, gw1, by decide +kernel⟩
  | 32, _ => exact ⟨⟨by decide, rfl⟩, gw1006, gw1, by decide +kernel⟩
  | 33, _ => exact ⟨⟨by decide, rfl⟩, gw1010, gw1, by decide +kernel⟩
  | 34, _ => exact ⟨⟨by decide, rfl⟩, gw1014, gw1, by decide +kernel⟩
  | 35, _ => exact ⟨⟨by decide, rfl⟩, gw1119, gw14, by decide +kernel⟩
  | 36, _ => exact ⟨⟨by decide, rfl⟩, gw1332, gw14, by decide +kernel⟩
  | 37, _ => exact ⟨⟨by decide, rfl⟩, gw1336, gw14, by decide +kernel⟩
  | 38, _ => exact ⟨⟨by decide, rfl⟩, gw1422, gw14, by decide +kernel⟩
  | 39, _ => exact ⟨⟨by decide, rfl⟩, gw1359, gw14, by decide +kernel⟩
  | 40, _ => exact ⟨⟨by decide, rfl⟩, gw1419, gw14, by decide +kernel⟩
  | 41, _ => exact ⟨⟨by decide, rfl⟩, gw1438, gw14, by decide +kernel⟩
  | 42, _ => exact ⟨⟨by decide, rfl⟩, gw1441, gw14, by decide +kernel⟩
  | 43, _ => exact ⟨⟨by decide, rfl⟩, gw1535, gw14, by decide +kernel⟩
  | 44, _ => exact ⟨⟨by decide, rfl⟩, gw1387, gw14, by decide +kernel⟩
  | 45, _ => exact ⟨⟨by decide, rfl⟩, gw1391, gw14, by decide +kernel⟩
  | 46, _ => exact ⟨⟨by decide, rfl⟩, gw1435, gw14, by decide +kernel⟩
  | 47, _ => exact ⟨⟨by decide, rfl⟩, gw1395, gw14, by decide +kernel⟩
  | 48, _ => exact ⟨⟨by decide, rfl⟩, gw1376, gw14, by decide +kernel⟩
  | 49, _ => exact ⟨⟨by decide, rfl⟩, gw1383, gw14, by decide +kernel⟩
  | k + 50, h => exact absurd h (by omega)
set_option maxRecDepth 100000 in
set_option maxHeartbeats 4000000 in
theorem mOk_3 (k : Nat) (h : k < 50) : (fun mi : Nat => (plainName (yy mi).cls = true ∧ (yy mi).cls = RS (ow mi)) ∧ Cond.code (yy mi) (mcc mi) (mL mi) (rt mi) ∈ xG ∧ Cond.initialized (yy mi).cls ∈ xG ∧ (yy mi).cls ≠ "java/lang/invoke/MethodHandle" ∧ (yy mi).cls ≠ "java/lang/invoke/VarHandle" ∧ (parseMethodDescriptor (yy mi).desc).map (fun d => d.parameters.length) = some (npar mi)) (150 + k) := by
  match k, h with
  | 0, _ => exact ⟨⟨by decide, rfl⟩, gw1431, gw14, by decide +kernel⟩
  | 1, _ => exact ⟨⟨by decide, rfl⟩, gw1445, gw14, by decide +kernel⟩
  | 2, _ => exact ⟨⟨by decide, rfl⟩, gw1427, gw14, by decide +kernel⟩
  | 3, _ => exact ⟨⟨by decide, rfl⟩, gw1493, gw14, by decide +kernel⟩
  | 4, _ => exact ⟨⟨by decide, rfl⟩, gw1403, gw14, by decide +kernel⟩
  | 5, _ => exact ⟨⟨by decide, rfl⟩, gw1399, gw14, by decide +kernel⟩
  | 6, _ => exact ⟨⟨by decide, rfl⟩, gw1466, gw14, by decide +kernel⟩
  | 7, _ => exact ⟨⟨by decide, rfl⟩, gw1462, gw14, by decide +kernel⟩
  | 8, _ => exact ⟨⟨by decide, rfl⟩, gw1480, gw14, by decide +kernel⟩
  | 9, _ => exact ⟨⟨by decide, rfl⟩, gw1485, gw14, by decide +kernel⟩
  | 10, _ => exact ⟨⟨by decide, rfl⟩, gw1489, gw14, by decide +kernel⟩
  | 11, _ => exact ⟨⟨by decide, rfl⟩, gw1498, gw14, by decide +kernel⟩
  | 12, _ => exact ⟨⟨by decide, rfl⟩, gw1502, gw14, by decide +kernel⟩
  | 13, _ => exact ⟨⟨by decide, rfl⟩, gw1506, gw14, by decide +kernel⟩
  | 14, _ => exact ⟨⟨by decide, rfl⟩, gw1476, gw14, by decide +kernel⟩
  | 15, _ => exact ⟨⟨by decide, rfl⟩, gw1510, gw14, by decide +kernel⟩
  | 16, _ => exact ⟨⟨by decide, rfl⟩, gw1344, gw14, by decide +kernel⟩
  | 17, _ => exact ⟨⟨by decide, rfl⟩, gw1340, gw14, by decide +kernel⟩
  | 18, _ => exact ⟨⟨by decide, rfl⟩, gw1352, gw14, by decide +kernel⟩
  | 19, _ => exact ⟨⟨by decide, rfl⟩, gw1363, gw14, by decide +kernel⟩
  | 20, _ => exact ⟨⟨by decide, rfl⟩, gw1356, gw14, by decide +kernel⟩
  | 21, _ => exact ⟨⟨by decide, rfl⟩, gw1368, gw14, by decide +kernel⟩
  | 22, _ => exact ⟨⟨by decide, rfl⟩, gw1348, gw14, by decide +kernel⟩
  | 23, _ => exact ⟨⟨by decide, rfl⟩, gw1372, gw14, by decide +kernel⟩
  | 24, _ => exact ⟨⟨by decide, rfl⟩, gw1411, gw14, by decide +kernel⟩
  | 25, _ => exact ⟨⟨by decide, rfl⟩, gw1416, gw14, by decide +kernel⟩
  | 26, _ => exact ⟨⟨by decide, rfl⟩, gw1450, gw14, by decide +kernel⟩
  | 27, _ => exact ⟨⟨by decide, rfl⟩, gw1472, gw14, by decide +kernel⟩
  | 28, _ => exact ⟨⟨by decide, rfl⟩, gw1458, gw14, by decide +kernel⟩
  | 29, _ => exact ⟨⟨by decide, rfl⟩, gw1518, gw14, by decide +kernel⟩
  | 30, _ => exact ⟨⟨by decide, rfl⟩, gw1514, gw14, by decide +kernel⟩
  | 31, _ => exact ⟨⟨by decide, rfl⟩, gw1523, gw14, by decide +kernel⟩
  | 32, _ => exact ⟨⟨by decide, rfl⟩, gw1527, gw14, by decide +kernel⟩
  | 33, _ => exact ⟨⟨by decide, rfl⟩, gw1531, gw14, by decide +kernel⟩
  | 34, _ => exact ⟨⟨by decide, rfl⟩, gw1539, gw14, by decide +kernel⟩
  | 35, _ => exact ⟨⟨by decide, rfl⟩, gw1543, gw14, by decide +kernel⟩
  | 36, _ => exact ⟨⟨by decide, rfl⟩, gw1552, gw14, by decide +kernel⟩
  | 37, _ => exact ⟨⟨by decide, rfl⟩, gw1548, gw14, by decide +kernel⟩
  | 38, _ => exact ⟨⟨by decide, rfl⟩, gw1556, gw14, by decide +kernel⟩
  | 39, _ => exact ⟨⟨by decide, rfl⟩, gw1560, gw14, by decide +kernel⟩
  | 40, _ => exact ⟨⟨by decide, rfl⟩, gw1564, gw14, by decide +kernel⟩
  | 41, _ => exact ⟨⟨by decide, rfl⟩, gw1568, gw14, by decide +kernel⟩
  | 42, _ => exact ⟨⟨by decide, rfl⟩, gw1576, gw14, by decide +kernel⟩
  | 43, _ => exact ⟨⟨by decide, rfl⟩, gw1572, gw14, by decide +kernel⟩
  | 44, _ => exact ⟨⟨by decide, rfl⟩, gw1580, gw14, by decide +kernel⟩
  | 45, _ => exact ⟨⟨by decide, rfl⟩, gw1588, gw14, by decide +kernel⟩
  | 46, _ => exact ⟨⟨by decide, rfl⟩, gw1584, gw14, by decide +kernel⟩
  | 47, _ => exact ⟨⟨by decide, rfl⟩, gw1592, gw14, by decide +kernel⟩
  | 48, _ => exact ⟨⟨by decide, rfl⟩, gw1596, gw14, by decide +kernel⟩
  | 49, _ => exact ⟨⟨by decide, rfl⟩, gw1600, gw14, by decide +kernel⟩
  | k + 50, h => exact absurd h (by omega)
set_option maxRecDepth 100000 in
set_option maxHeartbeats 4000000 in
theorem mOk_4 (k : Nat) (h : k < 3) : (fun mi : Nat => (plainName (yy mi).cls = true ∧ (yy mi).cls = RS (ow mi)) ∧ Cond.code (yy mi) (mcc mi) (mL mi) (rt mi) ∈ xG ∧ Cond.initialized (yy mi).cls ∈ xG ∧ (yy mi).cls ≠ "java/lang/invoke/MethodHandle" ∧ (yy mi).cls ≠ "java/lang/invoke/VarHandle" ∧ (parseMethodDescriptor (yy mi).desc).map (fun d => d.parameters.length) = some (npar mi)) (200 + k) := by
  match k, h with
  | 0, _ => exact ⟨⟨by decide, rfl⟩, gw1604, gw14, by decide +kernel⟩
  | 1, _ => exact ⟨⟨by decide, rfl⟩, gw1608, gw14, by decide +kernel⟩
  | 2, _ => exact ⟨⟨by decide, rfl⟩, gw1023, gw1, by decide +kernel⟩
  | k + 3, h => exact absurd h (by omega)
set_option maxRecDepth 100000 in
set_option maxHeartbeats 4000000 in
theorem mOk (mi : Nat) (h : mi < 203) : (plainName (yy mi).cls = true ∧ (yy mi).cls = RS (ow mi)) ∧ Cond.code (yy mi) (mcc mi) (mL mi) (rt mi) ∈ xG ∧ Cond.initialized (yy mi).cls ∈ xG ∧ (yy mi).cls ≠ "java/lang/invoke/MethodHandle" ∧ (yy mi).cls ≠ "java/lang/invoke/VarHandle" ∧ (parseMethodDescriptor (yy mi).desc).map (fun d => d.parameters.length) = some (npar mi) := by
  by_cases h0 : mi < 50
  · have := mOk_0 (mi - 0) (by omega); rw [show 0 + (mi - 0) = mi by omega] at this; exact this
  by_cases h1 : mi < 100
  · have := mOk_1 (mi - 50) (by omega); rw [show 50 + (mi - 50) = mi by omega] at this; exact this
  by_cases h2 : mi < 150
  · have := mOk_2 (mi - 100) (by omega); rw [show 100 + (mi - 100) = mi by omega] at this; exact this
  by_cases h3 : mi < 200
  · have := mOk_3 (mi - 150) (by omega); rw [show 150 + (mi - 150) = mi by omega] at this; exact this
  have := mOk_4 (mi - 200) (by omega); rw [show 200 + (mi - 200) = mi by omega] at this; exact this
def pins (mi pc : Nat) : Option PI := if mi < 203 then plkI (pg mi) pc else none
theorem pins_ok {mi pc : Nat} {q : PI} (h : pins mi pc = some q) : mi < 203 ∧ Ok mi pc q := by
  unfold pins at h
  by_cases hm : mi < 203
  · rw [if_pos hm] at h
    exact ⟨hm, okL_mem (okAll mi hm) h⟩
  · rw [if_neg hm] at h
    cases h
def callRec (σ : ps) (mode : Int) (k : Nat) (as : List Value) : Bool := match as with
  | .ref b :: _ => if mode = 0 then pis σ b (ow k) else true
  | _ => decide (mode = 1)
def callOk (σ : ps) (mode : Int) (k np : Nat) (st : List Value) : Bool := decide (np ≤ st.length) && (decide (catS (st.drop np) ≤ 8) && (decide ((lg_sl (st.take np).reverse).length ≤ mL k) && callRec σ mode k (st.take np).reverse))
def prun : Nat → Nat → Nat → LV → List Value → ps → Option (Option Value × ps)
  | 0, _, _, _, _, _ => none
  | n + 1, mi, pc, lv, st, σ =>
    match pins mi pc with
    | none => none
    | some q =>
      if q.1 = 36 then
        (if callOk σ q.2.2.2.1 q.2.2.1.toNat (np q.2.2.1.toNat) st then
          (match prun n q.2.2.1.toNat 0 (lv_args 0 (st.take (np q.2.2.1.toNat)).reverse) [] σ with
          | none => none
          | some (r, σ1) => prun n mi q.2.1 lv (r.toList ++ st.drop (np q.2.2.1.toNat)) σ1)
        else none)
      else
        (match pret (rt mi) q st with
        | some r => some (r, σ)
        | none =>
          (match pst q lv st σ with
          | none => none
          | some (pc', lv', st', σ') => prun n mi pc' lv' st' σ'))
def stp (σ σ1 : ps) : Prop := σ1 = σ ∨ (∃ a j v, σ1 = sPut σ a j v) ∨ ∃ k n f, σ1 = sNew σ k n f
theorem m_iload {q : PI} {lv lv' : LV} {st st' : List Value} {σ σ' : ps} {pc' : Nat} (h : f_iload q lv st σ = some (pc', lv', st', σ')) : stp σ σ' := by
  unfold f_iload at h
  repeat' split at h
  all_goals first | (cases h; done) | (cases h; exact Or.inl rfl) | (cases h; exact Or.inr (Or.inl ⟨_, _, _, rfl⟩)) | (cases h; exact Or.inr (Or.inr ⟨_, _, _, rfl⟩))
theorem m_lload {q : PI} {lv lv' : LV} {st st' : List Value} {σ σ' : ps} {pc' : Nat} (h : f_lload q lv st σ = some (pc', lv', st', σ')) : stp σ σ' := by
  unfold f_lload at h
  repeat' split at h
  all_goals first | (cases h; done) | (cases h; exact Or.inl rfl) | (cases h; exact Or.inr (Or.inl ⟨_, _, _, rfl⟩)) | (cases h; exact Or.inr (Or.inr ⟨_, _, _, rfl⟩))
theorem m_aload {q : PI} {lv lv' : LV} {st st' : List Value} {σ σ' : ps} {pc' : Nat} (h : f_aload q lv st σ = some (pc', lv', st', σ')) : stp σ σ' := by
  unfold f_aload at h
  repeat' split at h
  all_goals first | (cases h; done) | (cases h; exact Or.inl rfl) | (cases h; exact Or.inr (Or.inl ⟨_, _, _, rfl⟩)) | (cases h; exact Or.inr (Or.inr ⟨_, _, _, rfl⟩))
theorem m_istore {q : PI} {lv lv' : LV} {st st' : List Value} {σ σ' : ps} {pc' : Nat} (h : f_istore q lv st σ = some (pc', lv', st', σ')) : stp σ σ' := by
  unfold f_istore at h
  repeat' split at h
  all_goals first | (cases h; done) | (cases h; exact Or.inl rfl) | (cases h; exact Or.inr (Or.inl ⟨_, _, _, rfl⟩)) | (cases h; exact Or.inr (Or.inr ⟨_, _, _, rfl⟩))
theorem m_lstore {q : PI} {lv lv' : LV} {st st' : List Value} {σ σ' : ps} {pc' : Nat} (h : f_lstore q lv st σ = some (pc', lv', st', σ')) : stp σ σ' := by
  unfold f_lstore at h
  repeat' split at h
  all_goals first | (cases h; done) | (cases h; exact Or.inl rfl) | (cases h; exact Or.inr (Or.inl ⟨_, _, _, rfl⟩)) | (cases h; exact Or.inr (Or.inr ⟨_, _, _, rfl⟩))
theorem m_astore {q : PI} {lv lv' : LV} {st st' : List Value} {σ σ' : ps} {pc' : Nat} (h : f_astore q lv st σ = some (pc', lv', st', σ')) : stp σ σ' := by
  unfold f_astore at h
  repeat' split at h
  all_goals first | (cases h; done) | (cases h; exact Or.inl rfl) | (cases h; exact Or.inr (Or.inl ⟨_, _, _, rfl⟩)) | (cases h; exact Or.inr (Or.inr ⟨_, _, _, rfl⟩))
theorem m_iinc {q : PI} {lv lv' : LV} {st st' : List Value} {σ σ' : ps} {pc' : Nat} (h : f_iinc q lv st σ = some (pc', lv', st', σ')) : stp σ σ' := by
  unfold f_iinc at h
  repeat' split at h
  all_goals first | (cases h; done) | (cases h; exact Or.inl rfl) | (cases h; exact Or.inr (Or.inl ⟨_, _, _, rfl⟩)) | (cases h; exact Or.inr (Or.inr ⟨_, _, _, rfl⟩))
theorem m_lcmp {q : PI} {lv lv' : LV} {st st' : List Value} {σ σ' : ps} {pc' : Nat} (h : f_lcmp q lv st σ = some (pc', lv', st', σ')) : stp σ σ' := by
  unfold f_lcmp at h
  repeat' split at h
  all_goals first | (cases h; done) | (cases h; exact Or.inl rfl) | (cases h; exact Or.inr (Or.inl ⟨_, _, _, rfl⟩)) | (cases h; exact Or.inr (Or.inr ⟨_, _, _, rfl⟩))
theorem m_i2l {q : PI} {lv lv' : LV} {st st' : List Value} {σ σ' : ps} {pc' : Nat} (h : f_i2l q lv st σ = some (pc', lv', st', σ')) : stp σ σ' := by
  unfold f_i2l at h
  repeat' split at h
  all_goals first | (cases h; done) | (cases h; exact Or.inl rfl) | (cases h; exact Or.inr (Or.inl ⟨_, _, _, rfl⟩)) | (cases h; exact Or.inr (Or.inr ⟨_, _, _, rfl⟩))
theorem m_l2i {q : PI} {lv lv' : LV} {st st' : List Value} {σ σ' : ps} {pc' : Nat} (h : f_l2i q lv st σ = some (pc', lv', st', σ')) : stp σ σ' := by
  unfold f_l2i at h
  repeat' split at h
  all_goals first | (cases h; done) | (cases h; exact Or.inl rfl) | (cases h; exact Or.inr (Or.inl ⟨_, _, _, rfl⟩)) | (cases h; exact Or.inr (Or.inr ⟨_, _, _, rfl⟩))
theorem m_i2b {q : PI} {lv lv' : LV} {st st' : List Value} {σ σ' : ps} {pc' : Nat} (h : f_i2b q lv st σ = some (pc', lv', st', σ')) : stp σ σ' := by
  unfold f_i2b at h
  repeat' split at h
  all_goals first | (cases h; done) | (cases h; exact Or.inl rfl) | (cases h; exact Or.inr (Or.inl ⟨_, _, _, rfl⟩)) | (cases h; exact Or.inr (Or.inr ⟨_, _, _, rfl⟩))
theorem m_if {q : PI} {lv lv' : LV} {st st' : List Value} {σ σ' : ps} {pc' : Nat} (h : f_if q lv st σ = some (pc', lv', st', σ')) : stp σ σ' := by
  unfold f_if at h
  repeat' split at h
  all_goals first | (cases h; done) | (cases h; exact Or.inl rfl) | (cases h; exact Or.inr (Or.inl ⟨_, _, _, rfl⟩)) | (cases h; exact Or.inr (Or.inr ⟨_, _, _, rfl⟩))
theorem m_icmp {q : PI} {lv lv' : LV} {st st' : List Value} {σ σ' : ps} {pc' : Nat} (h : f_icmp q lv st σ = some (pc', lv', st', σ')) : stp σ σ' := by
  unfold f_icmp at h
  repeat' split at h
  all_goals first | (cases h; done) | (cases h; exact Or.inl rfl) | (cases h; exact Or.inr (Or.inl ⟨_, _, _, rfl⟩)) | (cases h; exact Or.inr (Or.inr ⟨_, _, _, rfl⟩))
theorem m_ifnull {q : PI} {lv lv' : LV} {st st' : List Value} {σ σ' : ps} {pc' : Nat} (h : f_ifnull q lv st σ = some (pc', lv', st', σ')) : stp σ σ' := by
  unfold f_ifnull at h
  repeat' split at h
  all_goals first | (cases h; done) | (cases h; exact Or.inl rfl) | (cases h; exact Or.inr (Or.inl ⟨_, _, _, rfl⟩)) | (cases h; exact Or.inr (Or.inr ⟨_, _, _, rfl⟩))
theorem m_ifnonnull {q : PI} {lv lv' : LV} {st st' : List Value} {σ σ' : ps} {pc' : Nat} (h : f_ifnonnull q lv st σ = some (pc', lv', st', σ')) : stp σ σ' := by
  unfold f_ifnonnull at h
  repeat' split at h
  all_goals first | (cases h; done) | (cases h; exact Or.inl rfl) | (cases h; exact Or.inr (Or.inl ⟨_, _, _, rfl⟩)) | (cases h; exact Or.inr (Or.inr ⟨_, _, _, rfl⟩))
theorem m_switch {q : PI} {lv lv' : LV} {st st' : List Value} {σ σ' : ps} {pc' : Nat} (h : f_switch q lv st σ = some (pc', lv', st', σ')) : stp σ σ' := by
  unfold f_switch at h
  repeat' split at h
  all_goals first | (cases h; done) | (cases h; exact Or.inl rfl) | (cases h; exact Or.inr (Or.inl ⟨_, _, _, rfl⟩)) | (cases h; exact Or.inr (Or.inr ⟨_, _, _, rfl⟩))
theorem m_get {q : PI} {lv lv' : LV} {st st' : List Value} {σ σ' : ps} {pc' : Nat} (h : f_get q lv st σ = some (pc', lv', st', σ')) : stp σ σ' := by
  unfold f_get at h
  repeat' split at h
  all_goals first | (cases h; done) | (cases h; exact Or.inl rfl) | (cases h; exact Or.inr (Or.inl ⟨_, _, _, rfl⟩)) | (cases h; exact Or.inr (Or.inr ⟨_, _, _, rfl⟩))
theorem m_put {q : PI} {lv lv' : LV} {st st' : List Value} {σ σ' : ps} {pc' : Nat} (h : f_put q lv st σ = some (pc', lv', st', σ')) : stp σ σ' := by
  unfold f_put at h
  repeat' split at h
  all_goals first | (cases h; done) | (cases h; exact Or.inl rfl) | (cases h; exact Or.inr (Or.inl ⟨_, _, _, rfl⟩)) | (cases h; exact Or.inr (Or.inr ⟨_, _, _, rfl⟩))
theorem m_iald {q : PI} {lv lv' : LV} {st st' : List Value} {σ σ' : ps} {pc' : Nat} (h : f_iald q lv st σ = some (pc', lv', st', σ')) : stp σ σ' := by
  unfold f_iald at h
  repeat' split at h
  all_goals first | (cases h; done) | (cases h; exact Or.inl rfl) | (cases h; exact Or.inr (Or.inl ⟨_, _, _, rfl⟩)) | (cases h; exact Or.inr (Or.inr ⟨_, _, _, rfl⟩))
theorem m_bald {q : PI} {lv lv' : LV} {st st' : List Value} {σ σ' : ps} {pc' : Nat} (h : f_bald q lv st σ = some (pc', lv', st', σ')) : stp σ σ' := by
  unfold f_bald at h
  repeat' split at h
  all_goals first | (cases h; done) | (cases h; exact Or.inl rfl) | (cases h; exact Or.inr (Or.inl ⟨_, _, _, rfl⟩)) | (cases h; exact Or.inr (Or.inr ⟨_, _, _, rfl⟩))
theorem m_lald {q : PI} {lv lv' : LV} {st st' : List Value} {σ σ' : ps} {pc' : Nat} (h : f_lald q lv st σ = some (pc', lv', st', σ')) : stp σ σ' := by
  unfold f_lald at h
  repeat' split at h
  all_goals first | (cases h; done) | (cases h; exact Or.inl rfl) | (cases h; exact Or.inr (Or.inl ⟨_, _, _, rfl⟩)) | (cases h; exact Or.inr (Or.inr ⟨_, _, _, rfl⟩))
theorem m_aald {q : PI} {lv lv' : LV} {st st' : List Value} {σ σ' : ps} {pc' : Nat} (h : f_aald q lv st σ = some (pc', lv', st', σ')) : stp σ σ' := by
  unfold f_aald at h
  repeat' split at h
  all_goals first | (cases h; done) | (cases h; exact Or.inl rfl) | (cases h; exact Or.inr (Or.inl ⟨_, _, _, rfl⟩)) | (cases h; exact Or.inr (Or.inr ⟨_, _, _, rfl⟩))
theorem m_iast {q : PI} {lv lv' : LV} {st st' : List Value} {σ σ' : ps} {pc' : Nat} (h : f_iast q lv st σ = some (pc', lv', st', σ')) : stp σ σ' := by
  unfold f_iast at h
  repeat' split at h
  all_goals first | (cases h; done) | (cases h; exact Or.inl rfl) | (cases h; exact Or.inr (Or.inl ⟨_, _, _, rfl⟩)) | (cases h; exact Or.inr (Or.inr ⟨_, _, _, rfl⟩))
theorem m_bast {q : PI} {lv lv' : LV} {st st' : List Value} {σ σ' : ps} {pc' : Nat} (h : f_bast q lv st σ = some (pc', lv', st', σ')) : stp σ σ' := by
  unfold f_bast at h
  repeat' split at h
  all_goals first | (cases h; done) | (cases h; exact Or.inl rfl) | (cases h; exact Or.inr (Or.inl ⟨_, _, _, rfl⟩)) | (cases h; exact Or.inr (Or.inr ⟨_, _, _, rfl⟩))
theorem m_last {q : PI} {lv lv' : LV} {st st' : List Value} {σ σ' : ps} {pc' : Nat} (h : f_last q lv st σ = some (pc', lv', st', σ')) : stp σ σ' := by
  unfold f_last at h
  repeat' split at h
  all_goals first | (cases h; done) | (cases h; exact Or.inl rfl) | (cases h; exact Or.inr (Or.inl ⟨_, _, _, rfl⟩)) | (cases h; exact Or.inr (Or.inr ⟨_, _, _, rfl⟩))
theorem m_aast {q : PI} {lv lv' : LV} {st st' : List Value} {σ σ' : ps} {pc' : Nat} (h : f_aast q lv st σ = some (pc', lv', st', σ')) : stp σ σ' := by
  unfold f_aast at h
  repeat' split at h
  all_goals first | (cases h; done) | (cases h; exact Or.inl rfl) | (cases h; exact Or.inr (Or.inl ⟨_, _, _, rfl⟩)) | (cases h; exact Or.inr (Or.inr ⟨_, _, _, rfl⟩))
theorem m_pop {q : PI} {lv lv' : LV} {st st' : List Value} {σ σ' : ps} {pc' : Nat} (h : f_pop q lv st σ = some (pc', lv', st', σ')) : stp σ σ' := by
  unfold f_pop at h
  repeat' split at h
  all_goals first | (cases h; done) | (cases h; exact Or.inl rfl) | (cases h; exact Or.inr (Or.inl ⟨_, _, _, rfl⟩)) | (cases h; exact Or.inr (Or.inr ⟨_, _, _, rfl⟩))
theorem m_dup {q : PI} {lv lv' : LV} {st st' : List Value} {σ σ' : ps} {pc' : Nat} (h : f_dup q lv st σ = some (pc', lv', st', σ')) : stp σ σ' := by
  unfold f_dup at h
  repeat' split at h
  all_goals first | (cases h; done) | (cases h; exact Or.inl rfl) | (cases h; exact Or.inr (Or.inl ⟨_, _, _, rfl⟩)) | (cases h; exact Or.inr (Or.inr ⟨_, _, _, rfl⟩))
theorem m_dup2 {q : PI} {lv lv' : LV} {st st' : List Value} {σ σ' : ps} {pc' : Nat} (h : f_dup2 q lv st σ = some (pc', lv', st', σ')) : stp σ σ' := by
  unfold f_dup2 at h
  repeat' split at h
  all_goals first | (cases h; done) | (cases h; exact Or.inl rfl) | (cases h; exact Or.inr (Or.inl ⟨_, _, _, rfl⟩)) | (cases h; exact Or.inr (Or.inr ⟨_, _, _, rfl⟩))
theorem m_new {q : PI} {lv lv' : LV} {st st' : List Value} {σ σ' : ps} {pc' : Nat} (h : f_new q lv st σ = some (pc', lv', st', σ')) : stp σ σ' := by
  unfold f_new at h
  skip
  all_goals first | (cases h; done) | (cases h; exact Or.inl rfl) | (cases h; exact Or.inr (Or.inl ⟨_, _, _, rfl⟩)) | (cases h; exact Or.inr (Or.inr ⟨_, _, _, rfl⟩))
theorem m_newa {q : PI} {lv lv' : LV} {st st' : List Value} {σ σ' : ps} {pc' : Nat} (h : f_newa q lv st σ = some (pc', lv', st', σ')) : stp σ σ' := by
  unfold f_newa at h
  repeat' split at h
  all_goals first | (cases h; done) | (cases h; exact Or.inl rfl) | (cases h; exact Or.inr (Or.inl ⟨_, _, _, rfl⟩)) | (cases h; exact Or.inr (Or.inr ⟨_, _, _, rfl⟩))
theorem m_imin {q : PI} {lv lv' : LV} {st st' : List Value} {σ σ' : ps} {pc' : Nat} (h : f_imin q lv st σ = some (pc', lv', st', σ')) : stp σ σ' := by
  unfold f_imin at h
  repeat' split at h
  all_goals first | (cases h; done) | (cases h; exact Or.inl rfl) | (cases h; exact Or.inr (Or.inl ⟨_, _, _, rfl⟩)) | (cases h; exact Or.inr (Or.inr ⟨_, _, _, rfl⟩))
theorem m_lmin {q : PI} {lv lv' : LV} {st st' : List Value} {σ σ' : ps} {pc' : Nat} (h : f_lmin q lv st σ = some (pc', lv', st', σ')) : stp σ σ' := by
  unfold f_lmin at h
  repeat' split at h
  all_goals first | (cases h; done) | (cases h; exact Or.inl rfl) | (cases h; exact Or.inr (Or.inl ⟨_, _, _, rfl⟩)) | (cases h; exact Or.inr (Or.inr ⟨_, _, _, rfl⟩))
theorem m_oinit {q : PI} {lv lv' : LV} {st st' : List Value} {σ σ' : ps} {pc' : Nat} (h : f_oinit q lv st σ = some (pc', lv', st', σ')) : stp σ σ' := by
  unfold f_oinit at h
  repeat' split at h
  all_goals first | (cases h; done) | (cases h; exact Or.inl rfl) | (cases h; exact Or.inr (Or.inl ⟨_, _, _, rfl⟩)) | (cases h; exact Or.inr (Or.inr ⟨_, _, _, rfl⟩))
theorem m_iop {q : PI} {lv lv' : LV} {st st' : List Value} {σ σ' : ps} {pc' : Nat} (h : f_iop q lv st σ = some (pc', lv', st', σ')) : stp σ σ' := by
  unfold f_iop at h
  repeat' split at h
  all_goals first | (cases h; done) | (cases h; exact Or.inl rfl) | (cases h; exact Or.inr (Or.inl ⟨_, _, _, rfl⟩)) | (cases h; exact Or.inr (Or.inr ⟨_, _, _, rfl⟩))
theorem m_lop {q : PI} {lv lv' : LV} {st st' : List Value} {σ σ' : ps} {pc' : Nat} (h : f_lop q lv st σ = some (pc', lv', st', σ')) : stp σ σ' := by
  unfold f_lop at h
  repeat' split at h
  all_goals first | (cases h; done) | (cases h; exact Or.inl rfl) | (cases h; exact Or.inr (Or.inl ⟨_, _, _, rfl⟩)) | (cases h; exact Or.inr (Or.inr ⟨_, _, _, rfl⟩))
theorem m_pst {q : PI} {lv lv' : LV} {st st' : List Value} {σ σ' : ps} {pc' : Nat} (h : pst q lv st σ = some (pc', lv', st', σ')) : stp σ σ' := by
  unfold pst at h
  split at h
  · cases h; exact Or.inl rfl
  · cases h; exact Or.inl rfl
  · cases h; exact Or.inl rfl
  · exact m_iload h
  · exact m_lload h
  · exact m_aload h
  · exact m_istore h
  · exact m_lstore h
  · exact m_astore h
  · exact m_iinc h
  · exact m_iop h
  · exact m_lop h
  · exact m_lcmp h
  · exact m_i2l h
  · exact m_l2i h
  · exact m_i2b h
  · exact m_if h
  · exact m_icmp h
  · exact m_ifnull h
  · exact m_ifnonnull h
  · cases h; exact Or.inl rfl
  · exact m_switch h
  · exact m_get h
  · exact m_put h
  · exact m_iald h
  · exact m_bald h
  · exact m_lald h
  · exact m_aald h
  · exact m_iast h
  · exact m_bast h
  · exact m_last h
  · exact m_aast h
  · exact m_pop h
  · exact m_dup h
  · exact m_dup2 h
  · exact m_new h
  · exact m_newa h
  · exact m_imin h
  · exact m_lmin h
  · exact m_oinit h
  · cases h
theorem stp.mono {σ σ1 : ps} (h : stp σ σ1) : σ.1 ≤ σ1.1 ∧ σ.2.1 ≤ σ1.2.1 := by
  rcases h with rfl | ⟨a, j, v, rfl⟩ | ⟨k, n, f, rfl⟩
  · exact ⟨Nat.le_refl _, Nat.le_refl _⟩
  · exact ⟨Nat.le_refl _, Nat.le_refl _⟩
  · exact ⟨Nat.le_add_right _ _, Nat.le_add_right _ _⟩
theorem prun_mono : ∀ (n mi pc : Nat) (lv : LV) (st : List Value) (σ : ps) (r : Option Value) (σ' : ps), prun n mi pc lv st σ = some (r, σ') → σ.1 ≤ σ'.1 ∧ σ.2.1 ≤ σ'.2.1 := by
  intro n
  induction n with
  | zero => intro mi pc lv st σ r σ' h; cases h
  | succ n ih =>
    intro mi pc lv st σ r σ' h
    unfold prun at h
    split at h
    · cases h
    · split at h
      · split at h
        · split at h
          · cases h
          · rename_i r1 σ1 h1
            have a1 := ih _ _ _ _ _ _ _ h1
            have a2 := ih _ _ _ _ _ _ _ h
            omega
        · cases h
      · split at h
        · cases h; exact ⟨Nat.le_refl _, Nat.le_refl _⟩
        · split at h
          · cases h
          · rename_i h1
            have a1 := (m_pst h1).mono
            have a2 := ih _ _ _ _ _ _ _ h
            omega
