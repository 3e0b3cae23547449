/-- name, code, locals, what it gives back, class, frames, room -/
def yy (mi : Nat) : MethodName :=
  if mi < 50 then ([yX0_init, yX0_start, yX0_probe, yX0_isHeld, yX0_mayDefend, yX0_advance, yX0_tellAgain, yX1_init, yX1_hear, yX1_placeOf, yX1_outdateOthers, yX1_remove, yX1_knownCount, yX1_countOf, yX1_entryOf, yX2_init, yX2_become, yX2_begin, yX2_die, yX2_countRefresh, yX2_plan, yX2_isOf, yX2_isTheOne, yX2_isKnownTo, yX2_view, yX3_init, yX3_start, yX3_moveOn, yX3_nextDue, yX3_questionOf, yX3_openQuestions, yX3_serviceCountOf, yX3_hasReply, yX3_removeReply, yX3_view, yX4_init, yX4_forget, yX4_pause, yX4_probe, yX4_restart, yX4_advance, yX4_tellAgain, yX4_isOf, yX4_rename, yX5_init, yX5_start, yX5_at, yX5_put, yX5_putNumber, yX5_putWord] : List (MethodName)).getD (mi - 0) yX0_init else
  if mi < 100 then ([yX5_putAddressRecord, yX5_putServiceRecord, yX5_addWordPlace, yX5_isWordPlace, yX5_spells, yX6_init, yX6_start, yX6_isOf, yX6_isNear, yX6_putOff, yX7_init, yX7_reads, yX7_readClaim, yX7_readAsk, yX7_readAnswer, yX7_readTelling, yX7_readByte, yX7_readPair, yX7_readUpTo, yX7_readSort, yX7_readAddress, yX7_readLife, yX7_readWord, yX7_readWordAgain, yX7_tellsAddress, yX7_tellsService, yX8_init, yX9_init, yX10_init, yX11_init, yX11_isSign, yX11_clear, yX11_add, yX11_copy, yX11_at, yX11_like, yX12_init, yX12_feed, yX12_end, yX12_tapeIsWord, yX12_moveTapeTo, yX12_on, yX12_off, yX12_claim, yX12_service, yX12_ask, yX12_close, yX12_lose, yX12_give, yX12_hostThatIsOn] : List (MethodName)).getD (mi - 50) yX0_init else
  if mi < 150 then ([yX12_openQuestion, yX12_go, yX12_split, yX12_join, yX12_deliverFirst, yX12_nextDue, yX12_actFirst, yX12_act, yX12_actAddress, yX12_actName, yX12_actEntry, yX12_hear, yX12_hearAddressProbe, yX12_hearAddressTold, yX12_hearNameProbe, yX12_hearAnswer, yX12_hearOfRival, yX12_hearAsk, yX12_planReply, yX12_hasUntoldService, yX12_newPacket, yX12_send, yX12_sendAddress, yX12_sendNameProbe, yX12_sendAsk, yX12_tellAddress, yX12_tellAll, yX12_tellType, yX12_sign, yX12_answers, yX12_found, yX12_entry, yX12_count, yX12_holders, yX12_sent, yX13_init, yX13_feed, yX13_end, yX13_small, yX13_isSign, yX13_alike, yX13_same, yX13_copy, yX13_takesWord, yX13_begin, yX13_put, yX13_putWord, yX13_send, yX13_address, yX13_sendAddress] : List (MethodName)).getD (mi - 100) yX0_init else
  if mi < 200 then ([yX13_putOwn, yX13_putService, yX13_tells, yX13_sendAsk, yX13_probes, yX13_movesOn, yX13_probesName, yX13_renames, yX13_address1, yX13_name1, yX13_asks, yX13_replies1, yX13_entryDue, yX13_entry1, yX13_acts, yX13_nextDue, yX13_millisecond, yX13_go, yX13_take, yX13_takeAddress, yX13_takeWord, yX13_takeTold, yX13_takes, yX13_aprobe, yX13_atell, yX13_nprobe, yX13_ask1, yX13_dies, yX13_record, yX13_isHost, yX13_on, yX13_forgets, yX13_off, yX13_claim, yX13_service, yX13_ask, yX13_isOpen, yX13_close, yX13_split, yX13_join, yX13_lose, yX13_give, yX13_fails, yX13_look, yX13_sign, yX13_foundAt, yX13_answers, yX13_found, yX13_entry, yX13_count] : List (MethodName)).getD (mi - 150) yX0_init else
  ([yX13_holders, yX13_sent, yX12_look] : List (MethodName)).getD (mi - 200) yX0_init
def mcc (mi : Nat) : ByteArray :=
  if mi < 50 then ([cX0_init, cX0_start, cX0_probe, cX0_isHeld, cX0_mayDefend, cX0_advance, cX0_tellAgain, cX1_init, cX1_hear, cX1_placeOf, cX1_outdateOthers, cX1_remove, cX1_knownCount, cX1_countOf, cX1_entryOf, cX2_init, cX2_become, cX2_begin, cX2_die, cX2_countRefresh, cX2_plan, cX2_isOf, cX2_isTheOne, cX2_isKnownTo, cX2_view, cX3_init, cX3_start, cX3_moveOn, cX3_nextDue, cX3_questionOf, cX3_openQuestions, cX3_serviceCountOf, cX3_hasReply, cX3_removeReply, cX3_view, cX4_init, cX4_forget, cX4_pause, cX4_probe, cX4_restart, cX4_advance, cX4_tellAgain, cX4_isOf, cX4_rename, cX5_init, cX5_start, cX5_at, cX5_put, cX5_putNumber, cX5_putWord] : List (ByteArray)).getD (mi - 0) cX0_init else
  if mi < 100 then ([cX5_putAddressRecord, cX5_putServiceRecord, cX5_addWordPlace, cX5_isWordPlace, cX5_spells, cX6_init, cX6_start, cX6_isOf, cX6_isNear, cX6_putOff, cX7_init, cX7_reads, cX7_readClaim, cX7_readAsk, cX7_readAnswer, cX7_readTelling, cX7_readByte, cX7_readPair, cX7_readUpTo, cX7_readSort, cX7_readAddress, cX7_readLife, cX7_readWord, cX7_readWordAgain, cX7_tellsAddress, cX7_tellsService, cX8_init, cX9_init, cX10_init, cX11_init, cX11_isSign, cX11_clear, cX11_add, cX11_copy, cX11_at, cX11_like, cX12_init, cX12_feed, cX12_end, cX12_tapeIsWord, cX12_moveTapeTo, cX12_on, cX12_off, cX12_claim, cX12_service, cX12_ask, cX12_close, cX12_lose, cX12_give, cX12_hostThatIsOn] : List (ByteArray)).getD (mi - 50) cX0_init else
  if mi < 150 then ([cX12_openQuestion, cX12_go, cX12_split, cX12_join, cX12_deliverFirst, cX12_nextDue, cX12_actFirst, cX12_act, cX12_actAddress, cX12_actName, cX12_actEntry, cX12_hear, cX12_hearAddressProbe, cX12_hearAddressTold, cX12_hearNameProbe, cX12_hearAnswer, cX12_hearOfRival, cX12_hearAsk, cX12_planReply, cX12_hasUntoldService, cX12_newPacket, cX12_send, cX12_sendAddress, cX12_sendNameProbe, cX12_sendAsk, cX12_tellAddress, cX12_tellAll, cX12_tellType, cX12_sign, cX12_answers, cX12_found, cX12_entry, cX12_count, cX12_holders, cX12_sent, cX13_init, cX13_feed, cX13_end, cX13_small, cX13_isSign, cX13_alike, cX13_same, cX13_copy, cX13_takesWord, cX13_begin, cX13_put, cX13_putWord, cX13_send, cX13_address, cX13_sendAddress] : List (ByteArray)).getD (mi - 100) cX0_init else
  if mi < 200 then ([cX13_putOwn, cX13_putService, cX13_tells, cX13_sendAsk, cX13_probes, cX13_movesOn, cX13_probesName, cX13_renames, cX13_address1, cX13_name1, cX13_asks, cX13_replies1, cX13_entryDue, cX13_entry1, cX13_acts, cX13_nextDue, cX13_millisecond, cX13_go, cX13_take, cX13_takeAddress, cX13_takeWord, cX13_takeTold, cX13_takes, cX13_aprobe, cX13_atell, cX13_nprobe, cX13_ask1, cX13_dies, cX13_record, cX13_isHost, cX13_on, cX13_forgets, cX13_off, cX13_claim, cX13_service, cX13_ask, cX13_isOpen, cX13_close, cX13_split, cX13_join, cX13_lose, cX13_give, cX13_fails, cX13_look, cX13_sign, cX13_foundAt, cX13_answers, cX13_found, cX13_entry, cX13_count] : List (ByteArray)).getD (mi - 150) cX0_init else
  ([cX13_holders, cX13_sent, cX12_look] : List (ByteArray)).getD (mi - 200) cX0_init
def mL (mi : Nat) : Nat :=
  if mi < 50 then ([1, 4, 4, 1, 3, 3, 4, 2, 5, 3, 7, 4, 6, 4, 5, 1, 2, 4, 3, 1, 3, 3, 2, 4, 4, 3, 5, 3, 4, 4, 3, 4, 3, 4, 2, 1, 1, 1, 4, 3, 3, 4, 2, 5, 1, 3, 2, 2, 4, 3] : List (Nat)).getD (mi - 0) 0 else
  if mi < 100 then ([3, 4, 2, 3, 4, 1, 5, 3, 3, 3, 2, 2, 2, 3, 4, 4, 3, 3, 4, 3, 3, 4, 7, 6, 3, 4, 1, 1, 1, 1, 1, 1, 2, 3, 2, 5, 2, 6, 2, 2, 3, 4, 4, 4, 5, 6, 4, 4, 4, 2] : List (Nat)).getD (mi - 50) 0 else
  if mi < 150 then ([5, 7, 3, 3, 7, 4, 2, 4, 3, 2, 6, 3, 2, 2, 3, 4, 4, 4, 3, 4, 4, 2, 4, 3, 9, 3, 5, 6, 4, 4, 7, 5, 2, 5, 2, 1, 8, 2, 1, 1, 6, 6, 5, 4, 2, 4, 4, 4, 2, 3] : List (Nat)).getD (mi - 100) 0 else
  if mi < 200 then ([3, 4, 5, 8, 2, 2, 2, 6, 3, 3, 2, 6, 4, 5, 3, 5, 7, 6, 4, 2, 7, 3, 7, 4, 4, 3, 8, 2, 8, 2, 4, 3, 3, 3, 4, 6, 3, 3, 3, 2, 3, 3, 2, 5, 3, 6, 4, 6, 5, 2] : List (Nat)).getD (mi - 150) 0 else
  ([4, 2, 4] : List (Nat)).getD (mi - 200) 0
def rt (mi : Nat) : Option FieldType :=
  if mi < 50 then ([none, none, none, (Option.some .boolean), (Option.some .boolean), none, none, none, none, (Option.some .int), none, none, (Option.some .int), (Option.some .int), (Option.some (.object "CableNames$Entry")), none, none, none, none, none, none, (Option.some .boolean), (Option.some .boolean), (Option.some .boolean), (Option.some .int), none, none, none, (Option.some .long), (Option.some (.object "CableNames$Question")), (Option.some .int), (Option.some .int), (Option.some .boolean), none, (Option.some .int), none, none, none, none, none, none, none, (Option.some .boolean), none, none, none, (Option.some .int), none, none, none] : List (Option FieldType)).getD (mi - 0) none else
  if mi < 100 then ([none, none, none, (Option.some .boolean), (Option.some .boolean), none, none, (Option.some .boolean), (Option.some .boolean), none, none, (Option.some .boolean), none, none, none, none, (Option.some .int), (Option.some .int), (Option.some .int), (Option.some .int), (Option.some .int), (Option.some .int), none, none, (Option.some .boolean), (Option.some .boolean), none, none, none, none, (Option.some .boolean), none, none, none, (Option.some .int), (Option.some .boolean), none, (Option.some .int), (Option.some .int), (Option.some .boolean), none, (Option.some .boolean), (Option.some .boolean), (Option.some .boolean), (Option.some .int), (Option.some .int), (Option.some .boolean), (Option.some .boolean), (Option.some .int), (Option.some (.object "CableNames$Host"))] : List (Option FieldType)).getD (mi - 50) none else
  if mi < 150 then ([(Option.some (.object "CableNames$Question")), (Option.some .int), none, none, none, (Option.some .long), (Option.some .boolean), (Option.some .boolean), none, none, none, none, none, none, none, none, none, none, none, (Option.some .boolean), (Option.some (.object "CableNames$Packet")), none, none, none, none, none, none, none, (Option.some .int), (Option.some .int), (Option.some .int), (Option.some .int), (Option.some .int), (Option.some .int), (Option.some .int), none, (Option.some .int), (Option.some .int), (Option.some .int), (Option.some .boolean), (Option.some .boolean), (Option.some .boolean), none, (Option.some .boolean), none, none, none, none, (Option.some .int), none] : List (Option FieldType)).getD (mi - 100) none else
  if mi < 200 then ([none, none, none, none, none, none, none, none, none, none, none, none, (Option.some .long), none, (Option.some .boolean), (Option.some .long), none, (Option.some .int), (Option.some .int), (Option.some .int), none, none, (Option.some .boolean), none, none, none, none, none, none, (Option.some .boolean), (Option.some .boolean), none, (Option.some .boolean), (Option.some .boolean), (Option.some .int), (Option.some .int), (Option.some .boolean), (Option.some .boolean), none, none, (Option.some .boolean), (Option.some .int), (Option.some .int), (Option.some .int), (Option.some .int), (Option.some .int), (Option.some .int), (Option.some .int), (Option.some .int), (Option.some .int)] : List (Option FieldType)).getD (mi - 150) none else
  ([(Option.some .int), (Option.some .int), (Option.some .int)] : List (Option FieldType)).getD (mi - 200) none
def ow (mi : Nat) : Nat :=
  if mi < 50 then ([0, 0, 0, 0, 0, 0, 0, 1, 1, 1, 1, 1, 1, 1, 1, 2, 2, 2, 2, 2, 2, 2, 2, 2, 2, 3, 3, 3, 3, 3, 3, 3, 3, 3, 3, 4, 4, 4, 4, 4, 4, 4, 4, 4, 5, 5, 5, 5, 5, 5] : List (Nat)).getD (mi - 0) 0 else
  if mi < 100 then ([5, 5, 5, 5, 5, 6, 6, 6, 6, 6, 7, 7, 7, 7, 7, 7, 7, 7, 7, 7, 7, 7, 7, 7, 7, 7, 8, 9, 10, 11, 11, 11, 11, 11, 11, 11, 12, 12, 12, 12, 12, 12, 12, 12, 12, 12, 12, 12, 12, 12] : List (Nat)).getD (mi - 50) 0 else
  if mi < 150 then ([12, 12, 12, 12, 12, 12, 12, 12, 12, 12, 12, 12, 12, 12, 12, 12, 12, 12, 12, 12, 12, 12, 12, 12, 12, 12, 12, 12, 12, 12, 12, 12, 12, 12, 12, 13, 13, 13, 13, 13, 13, 13, 13, 13, 13, 13, 13, 13, 13, 13] : List (Nat)).getD (mi - 100) 0 else
  if mi < 200 then ([13, 13, 13, 13, 13, 13, 13, 13, 13, 13, 13, 13, 13, 13, 13, 13, 13, 13, 13, 13, 13, 13, 13, 13, 13, 13, 13, 13, 13, 13, 13, 13, 13, 13, 13, 13, 13, 13, 13, 13, 13, 13, 13, 13, 13, 13, 13, 13, 13, 13] : List (Nat)).getD (mi - 150) 0 else
  ([13, 13, 12] : List (Nat)).getD (mi - 200) 0
def fr (mi : Nat) : Nat :=
  if mi < 50 then ([1, 1, 0, 0, 0, 0, 0, 3, 3, 2, 2, 0, 2, 2, 2, 2, 1, 1, 1, 1, 0, 1, 1, 1, 0, 4, 2, 1, 1, 2, 0, 1, 1, 0, 1, 2, 0, 0, 0, 0, 0, 0, 1, 1, 1, 0, 0, 0, 1, 1] : List (Nat)).getD (mi - 0) 0 else
  if mi < 100 then ([2, 2, 0, 0, 0, 2, 0, 1, 0, 1, 3, 5, 3, 4, 4, 3, 0, 1, 1, 1, 2, 2, 2, 1, 0, 1, 2, 2, 2, 1, 0, 0, 0, 0, 0, 0, 5, 2, 0, 1, 1, 3, 4, 2, 2, 2, 2, 1, 6, 0] : List (Nat)).getD (mi - 50) 0 else
  if mi < 150 then ([1, 7, 0, 1, 6, 2, 6, 5, 4, 4, 4, 5, 4, 4, 4, 4, 2, 4, 3, 2, 2, 0, 3, 3, 3, 3, 3, 3, 1, 3, 3, 1, 0, 1, 1, 1, 0, 0, 0, 0, 1, 0, 0, 1, 0, 0, 1, 0, 0, 1] : List (Nat)).getD (mi - 100) 0 else
  if mi < 200 then ([2, 2, 3, 2, 0, 1, 0, 1, 2, 4, 3, 3, 0, 3, 5, 1, 6, 7, 0, 1, 1, 2, 5, 2, 2, 4, 4, 0, 2, 0, 1, 0, 4, 2, 2, 2, 1, 2, 0, 0, 1, 6, 0, 1, 1, 2, 3, 3, 1, 0] : List (Nat)).getD (mi - 150) 0 else
  ([1, 0, 2] : List (Nat)).getD (mi - 200) 0
def lo (mi : Nat) : Nat :=
  if mi < 50 then ([20, 23, 0, 0, 0, 0, 0, 60, 72, 45, 46, 0, 47, 46, 46, 40, 22, 22, 23, 22, 0, 24, 24, 24, 0, 81, 46, 23, 23, 46, 0, 24, 24, 0, 22, 40, 0, 0, 0, 0, 0, 0, 24, 21, 20, 0, 0, 0, 21, 23] : List (Nat)).getD (mi - 0) 0 else
  if mi < 100 then ([45, 45, 0, 0, 0, 40, 0, 24, 0, 21, 60, 119, 66, 96, 96, 73, 0, 22, 22, 22, 44, 44, 47, 22, 0, 24, 40, 40, 40, 20, 0, 0, 0, 0, 0, 0, 103, 44, 0, 21, 21, 70, 92, 43, 43, 43, 45, 21, 141, 0] : List (Nat)).getD (mi - 50) 0 else
  if mi < 150 then ([21, 169, 0, 23, 141, 46, 148, 125, 86, 92, 100, 119, 86, 86, 89, 96, 45, 92, 70, 47, 40, 0, 63, 63, 72, 67, 68, 68, 21, 69, 70, 23, 0, 20, 21, 20, 0, 0, 0, 0, 20, 0, 0, 20, 0, 0, 25, 0, 0, 23] : List (Nat)).getD (mi - 100) 0 else
  if mi < 200 then ([48, 48, 71, 48, 0, 21, 0, 21, 45, 95, 75, 71, 0, 75, 117, 23, 148, 174, 0, 23, 23, 49, 122, 45, 45, 95, 95, 0, 46, 0, 22, 0, 95, 43, 43, 43, 21, 43, 0, 0, 21, 148, 0, 21, 21, 45, 70, 70, 21, 0] : List (Nat)).getD (mi - 150) 0 else
  ([21, 0, 43] : List (Nat)).getD (mi - 200) 0
def npar (mi : Nat) : Nat :=
  if mi < 50 then ([0, 2, 2, 0, 1, 1, 2, 0, 2, 1, 3, 1, 2, 1, 2, 0, 1, 2, 1, 0, 0, 2, 1, 2, 2, 1, 2, 1, 0, 2, 0, 1, 1, 1, 1, 0, 0, 0, 2, 1, 1, 2, 1, 0, 0, 2, 1, 1, 2, 1] : List (Nat)).getD (mi - 0) 0 else
  if mi < 100 then ([2, 3, 1, 1, 2, 0, 3, 2, 1, 1, 0, 1, 1, 1, 1, 3, 1, 1, 2, 1, 1, 1, 2, 3, 1, 2, 0, 0, 0, 0, 1, 0, 1, 1, 1, 1, 0, 5, 1, 0, 1, 2, 2, 1, 2, 2, 2, 2, 1, 1] : List (Nat)).getD (mi - 50) 0 else
  if mi < 150 then ([2, 1, 1, 0, 0, 0, 0, 1, 1, 1, 2, 2, 1, 1, 1, 1, 2, 1, 1, 1, 2, 1, 2, 1, 3, 1, 2, 2, 2, 2, 4, 3, 1, 1, 1, 0, 5, 1, 1, 1, 4, 4, 4, 0, 1, 2, 2, 1, 1, 2] : List (Nat)).getD (mi - 100) 0 else
  if mi < 200 then ([2, 3, 3, 5, 1, 1, 1, 1, 1, 1, 1, 2, 1, 2, 0, 0, 0, 1, 1, 0, 2, 2, 1, 3, 3, 2, 2, 1, 2, 1, 2, 1, 2, 1, 2, 2, 2, 2, 1, 0, 2, 1, 1, 2, 2, 3, 2, 4, 3, 1] : List (Nat)).getD (mi - 150) 0 else
  ([1, 1, 2] : List (Nat)).getD (mi - 200) 0
def np (mi : Nat) : Nat :=
  if mi < 50 then ([1, 3, 3, 1, 2, 2, 3, 1, 3, 2, 4, 2, 3, 2, 3, 1, 2, 3, 2, 1, 1, 3, 2, 3, 3, 2, 3, 2, 1, 3, 1, 2, 2, 2, 2, 1, 1, 1, 3, 2, 2, 3, 2, 1, 1, 3, 2, 2, 3, 2] : List (Nat)).getD (mi - 0) 0 else
  if mi < 100 then ([3, 4, 2, 2, 3, 1, 4, 3, 2, 2, 1, 2, 2, 2, 2, 4, 2, 2, 3, 2, 2, 2, 3, 4, 2, 3, 1, 1, 1, 1, 1, 1, 2, 2, 2, 2, 1, 6, 2, 1, 2, 3, 3, 2, 3, 3, 3, 3, 2, 2] : List (Nat)).getD (mi - 50) 0 else
  if mi < 150 then ([3, 2, 2, 1, 1, 1, 1, 2, 2, 2, 3, 3, 2, 2, 2, 2, 3, 2, 2, 2, 3, 2, 3, 2, 4, 2, 3, 3, 3, 3, 5, 4, 2, 2, 2, 1, 6, 2, 1, 1, 4, 4, 4, 1, 2, 3, 3, 2, 2, 3] : List (Nat)).getD (mi - 100) 0 else
  if mi < 200 then ([3, 4, 4, 6, 2, 2, 2, 2, 2, 2, 2, 3, 2, 3, 1, 1, 1, 2, 2, 1, 3, 3, 2, 4, 4, 3, 3, 2, 3, 2, 3, 2, 3, 2, 3, 3, 3, 3, 2, 1, 3, 2, 2, 3, 3, 4, 3, 5, 4, 2] : List (Nat)).getD (mi - 150) 0 else
  ([2, 2, 3] : List (Nat)).getD (mi - 200) 0
/-- what an instruction of the pure machine is in the class file -/
def okLd (mi pc : Nat) (q : PI) (f : Fin 4 → Instr) (g : Nat → Instr) : Prop := (∃ k : Fin 4, decode (mcc mi) pc = .ok (f k, 1) ∧ (k : Nat) = q.2.2.1.toNat ∧ q.2.1 = pc + 1) ∨ (decode (mcc mi) pc = .ok (g q.2.2.1.toNat, 2) ∧ q.2.1 = pc + 2)
def ok1 (mi pc : Nat) (q : PI) (i : Instr) : Prop := decode (mcc mi) pc = .ok (i, 1) ∧ q.2.1 = pc + 1
def okBr (mi pc : Nat) (q : PI) (f : Int → Instr) : Prop := ∃ off : Int, decode (mcc mi) pc = .ok (f off, 3) ∧ (pc : Int) + off = (q.2.2.2.1.toNat : Int) ∧ q.2.1 = pc + 3
def okCall (mi pc : Nat) (q : PI) : Prop :=
  q.2.1 = pc + 3 ∧ fr q.2.2.1.toNat + 1 ≤ fr mi ∧ 8 + (mL q.2.2.1.toNat + 11) + lo q.2.2.1.toNat ≤ lo mi ∧ q.2.2.2.2 = [np q.2.2.1.toNat] ∧ ∃ idx : Nat,
  (q.2.2.2.1 = 0 ∧ np q.2.2.1.toNat = npar q.2.2.1.toNat + 1 ∧ decode (mcc mi) pc = .ok (.invokevirtual idx, 3) ∧ Cond.methodLink (RS (ow mi)) idx (yy q.2.2.1.toNat) ∈ xG ∧ Cond.instanceMethod (yy q.2.2.1.toNat) ∈ xG ∧ Cond.selects (RS (ow q.2.2.1.toNat)) (yy q.2.2.1.toNat) (yy q.2.2.1.toNat) ∈ xG) ∨
  (q.2.2.2.1 = 1 ∧ np q.2.2.1.toNat = npar q.2.2.1.toNat ∧ decode (mcc mi) pc = .ok (.invokestatic idx, 3) ∧ Cond.methodLink (RS (ow mi)) idx (yy q.2.2.1.toNat) ∈ xG ∧ Cond.static (yy q.2.2.1.toNat) ∈ xG) ∨
  (q.2.2.2.1 = 2 ∧ np q.2.2.1.toNat = npar q.2.2.1.toNat + 1 ∧ rt q.2.2.1.toNat = none ∧ decode (mcc mi) pc = .ok (.invokespecial idx, 3) ∧ Cond.methodLink (RS (ow mi)) idx (yy q.2.2.1.toNat) ∈ xG ∧ Cond.instanceMethod (yy q.2.2.1.toNat) ∈ xG ∧ (yy q.2.2.1.toNat).name = "<init>") ∨
  (q.2.2.2.1 = 3 ∧ np q.2.2.1.toNat = npar q.2.2.1.toNat + 1 ∧ rt q.2.2.1.toNat = none ∧ decode (mcc mi) pc = .ok (.invokespecial idx, 3) ∧ (RS (ow mi), idx, yy q.2.2.1.toNat) ∈ xNest ∧ Cond.instanceMethod (yy q.2.2.1.toNat) ∈ xG ∧ (yy q.2.2.1.toNat).name = "<init>")
def okConst (mi pc : Nat) (q : PI) : Prop :=
  (∃ n : Int, decode (mcc mi) pc = .ok (.iconst n, 1) ∧ q.2.1 = pc + 1 ∧ Int32.ofInt n = Int32.ofInt q.2.2.1) ∨ (∃ n : Int, decode (mcc mi) pc = .ok (.bipush n, 2) ∧ q.2.1 = pc + 2 ∧ (Int8.ofInt n).toInt32 = Int32.ofInt q.2.2.1) ∨ (∃ n : Int, decode (mcc mi) pc = .ok (.sipush n, 3) ∧ q.2.1 = pc + 3 ∧ (Int16.ofInt n).toInt32 = Int32.ofInt q.2.2.1) ∨
  (∃ n : Nat, decode (mcc mi) pc = .ok (.ldc n, 2) ∧ q.2.1 = pc + 2 ∧ Cond.constant (RS (ow mi)) n (Int32.ofInt q.2.2.1) ∈ xG) ∨ (∃ n : Nat, decode (mcc mi) pc = .ok (.ldc_w n, 3) ∧ q.2.1 = pc + 3 ∧ Cond.constant (RS (ow mi)) n (Int32.ofInt q.2.2.1) ∈ xG)
def okLConst (mi pc : Nat) (q : PI) : Prop :=
  (∃ n : Fin 2, decode (mcc mi) pc = .ok (.lconst n, 1) ∧ q.2.1 = pc + 1 ∧ Int64.ofNat (n : Nat) = Int64.ofInt q.2.2.1) ∨ (∃ n : Nat, decode (mcc mi) pc = .ok (.ldc2_w n, 3) ∧ q.2.1 = pc + 3 ∧ Cond.constantLong (RS (ow mi)) n (Int64.ofInt q.2.2.1) ∈ xG)
def iopI (o : Int) : Instr := if o = 0 then .iadd else if o = 1 then .isub else if o = 2 then .imul else if o = 3 then .idiv else if o = 4 then .irem else if o = 5 then .iand else if o = 6 then .ior else if o = 7 then .ixor else if o = 8 then .ishl else .ishr
def lopI (o : Int) : Instr := if o = 0 then .ladd else if o = 1 then .lsub else if o = 2 then .lmul else if o = 3 then .ldiv else .lrem
def cdI (c : Int) : Jvm.ClassFile.Cond := if c = 0 then .eq else if c = 1 then .ne else if c = 2 then .lt else if c = 3 then .ge else if c = 4 then .gt else .le
def okFld (mi pc : Nat) (q : PI) (f : Nat → Instr) : Prop := ∃ idx : Nat, decode (mcc mi) pc = .ok (f idx, 3) ∧ q.2.1 = pc + 3 ∧ q.2.2.1.toNat < 14 ∧ q.2.2.2.1.toNat < nF q.2.2.1.toNat ∧ Cond.fieldLink (RS (ow mi)) idx (RS q.2.2.1.toNat) (TS q.2.2.1.toNat q.2.2.2.1.toNat).2.1 (TS q.2.2.1.toNat q.2.2.2.1.toNat).2.2.1 ∈ xG
def okFin (mi : Nat) (q : PI) : Prop := (TS q.2.2.1.toNat q.2.2.2.1.toNat).2.2.2 = false ∨ ((TS q.2.2.1.toNat q.2.2.2.1.toNat).2.2.2 = true ∧ (yy mi).name = "<init>" ∧ q.2.2.1.toNat = ow mi)
def okNew (mi pc : Nat) (q : PI) : Prop := ∃ idx : Nat, decode (mcc mi) pc = .ok (.new idx, 3) ∧ q.2.1 = pc + 3 ∧ q.2.2.1.toNat < 14 ∧ Cond.classLink (RS (ow mi)) idx (RS q.2.2.1.toNat) ∈ xG ∧ Cond.instantiable (RS q.2.2.1.toNat) (nF q.2.2.1.toNat) ∈ xG ∧ Cond.initialized (RS q.2.2.1.toNat) ∈ xG
def arT (c : Nat) : ArrayType := if c = 0 then .byte else if c = 1 then .int else if c = 2 then .long else .boolean
def okNewa (mi pc : Nat) (q : PI) : Prop := 20 ≤ q.2.2.1.toNat ∧ (rk q.2.2.1.toNat).2 ≤ 200000 ∧
  (((rk q.2.2.1.toNat).1 < 4 ∧ decode (mcc mi) pc = .ok (.newarray (arT (rk q.2.2.1.toNat).1), 2) ∧ q.2.1 = pc + 2 ∧ Cond.arrayClass (newarray.typeOf (arT (rk q.2.2.1.toNat).1)) ∈ xG) ∨
  (∃ idx : Nat, 4 ≤ (rk q.2.2.1.toNat).1 ∧ (rk q.2.2.1.toNat).1 < 11 ∧ decode (mcc mi) pc = .ok (.anewarray idx, 3) ∧ q.2.1 = pc + 3 ∧ Cond.classLink (RS (ow mi)) idx (RS (rowC (rk q.2.2.1.toNat).1)) ∈ xG))
def okSw (mi pc : Nat) (q : PI) : Prop := ∃ (d lo hi : Int) (offs : Array Int) (len : Nat), decode (mcc mi) pc = .ok (.tableswitch d lo hi offs, len) ∧ q.2.2.1 = lo ∧ (pc : Int) + d = (q.2.2.2.1.toNat : Int) ∧ offs.toList.map (fun o => ((pc : Int) + o).toNat) = q.2.2.2.2 ∧ (∀ o ∈ offs.toList, 0 ≤ (pc : Int) + o) ∧ hi - lo + 1 = (offs.size : Int)
def okObj (mi pc : Nat) (q : PI) : Prop := ∃ idx : Nat, decode (mcc mi) pc = .ok (.invokespecial idx, 3) ∧ q.2.1 = pc + 3 ∧ Cond.methodLink (RS (ow mi)) idx objectInit ∈ xG ∧ 1 ≤ fr mi ∧ 20 ≤ lo mi
def okMinI (mi pc : Nat) (q : PI) : Prop := ∃ idx : Nat, decode (mcc mi) pc = .ok (.invokestatic idx, 3) ∧ q.2.1 = pc + 3 ∧ Cond.methodLink (RS (ow mi)) idx Lib.Math.min.name ∈ xG ∧ 1 ≤ fr mi ∧ 21 ≤ lo mi
def okMinL (mi pc : Nat) (q : PI) : Prop := ∃ idx : Nat, decode (mcc mi) pc = .ok (.invokestatic idx, 3) ∧ q.2.1 = pc + 3 ∧ Cond.methodLink (RS (ow mi)) idx Lib.MathLoose.min_long.x ∈ xG ∧ 1 ≤ fr mi ∧ 23 ≤ lo mi
def Ok (mi pc : Nat) (q : PI) : Prop :=
  match q.1 with
  | 0 => okConst mi pc q
  | 1 => okLConst mi pc q
  | 2 => ok1 mi pc q .aconst_null
  | 3 => okLd mi pc q .iload_n .iload
  | 4 => okLd mi pc q .lload_n .lload
  | 5 => okLd mi pc q .aload_n .aload
  | 6 => okLd mi pc q .istore_n .istore ∧ q.2.2.1.toNat < mL mi
  | 7 => okLd mi pc q .lstore_n .lstore ∧ q.2.2.1.toNat + 1 < mL mi
  | 8 => okLd mi pc q .astore_n .astore ∧ q.2.2.1.toNat < mL mi
  | 9 => decode (mcc mi) pc = .ok (.iinc q.2.2.1.toNat q.2.2.2.1, 3) ∧ q.2.1 = pc + 3 ∧ q.2.2.1.toNat < mL mi
  | 10 => ok1 mi pc q (iopI q.2.2.1)
  | 11 => ok1 mi pc q (lopI q.2.2.1)
  | 12 => ok1 mi pc q .lcmp
  | 13 => ok1 mi pc q .i2l
  | 14 => ok1 mi pc q .l2i
  | 15 => ok1 mi pc q .i2b
  | 16 => okBr mi pc q (.ifCond (cdI q.2.2.1))
  | 17 => okBr mi pc q (.if_icmp (cdI q.2.2.1))
  | 18 => okBr mi pc q .ifnull
  | 19 => okBr mi pc q .ifnonnull
  | 20 => okBr mi pc q .goto
  | 21 => okSw mi pc q
  | 22 => okFld mi pc q .getfield
  | 23 => okFld mi pc q .putfield ∧ okFin mi q
  | 24 => ok1 mi pc q .iaload
  | 25 => ok1 mi pc q .baload
  | 26 => ok1 mi pc q .laload
  | 27 => ok1 mi pc q .aaload
  | 28 => ok1 mi pc q .iastore
  | 29 => ok1 mi pc q .bastore
  | 30 => ok1 mi pc q .lastore
  | 31 => ok1 mi pc q .aastore
  | 33 => ok1 mi pc q .pop
  | 34 => ok1 mi pc q .dup
  | 35 => ok1 mi pc q .dup2
  | 36 => okCall mi pc q
  | 37 => decode (mcc mi) pc = .ok (.return_, 1)
  | 38 => decode (mcc mi) pc = .ok (.ireturn, 1)
  | 39 => decode (mcc mi) pc = .ok (.lreturn, 1)
  | 40 => decode (mcc mi) pc = .ok (.areturn, 1)
  | 41 => okNew mi pc q
  | 42 => okNewa mi pc q
  | 43 => okMinI mi pc q
  | 44 => okMinL mi pc q
  | 45 => okObj mi pc q
  | _ => False
def okL (mi : Nat) : List (Nat × PI) → Prop
  | [] => True
  | e :: r => Ok mi e.1 e.2 ∧ okL mi r
theorem okL_mem {mi : Nat} {l : List (Nat × PI)} (h : okL mi l) {pc : Nat} {q : PI} (hq : plkI l pc = some q) : Ok mi pc q := by
  induction l with
  | nil => cases hq
  | cons e r ih =>
    obtain ⟨j, w⟩ := e
    unfold plkI at hq
    by_cases hj : j = pc
    · rw [if_pos hj] at hq; cases hq; subst hj; exact h.1
    · rw [if_neg hj] at hq; exact ih h.2 hq
theorem okL_c {mi pc : Nat} {q : PI} {r : List (Nat × PI)} (h1 : Ok mi pc q) (h2 : okL mi r) : okL mi ((pc, q) :: r) := ⟨h1, h2⟩
