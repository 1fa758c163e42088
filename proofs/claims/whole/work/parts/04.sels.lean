theorem WG_sel {y : MethodName} {n i : Nat} (h : lw_privs[i]? = some (y, n)) : Cond.selects y.cls y y ∈ WG := by
  refine List.mem_filter.mpr ⟨List.mem_append_left _ ?_, rfl⟩
  exact List.mem_map.mpr ⟨(y, n), List.mem_of_getElem? h, rfl⟩
theorem we_Jx4a65c_add_72be8 : (Cond.selects RJx4a65c yJx4a65c_add_72be8 yJx4a65c_add_72be8) ∈ WG := WG_sel (y := yJx4a65c_add_72be8) (n := 3) (i := 0) (by decide +kernel)
theorem we_Jx4a65c_grow_d5877 : (Cond.selects RJx4a65c yJx4a65c_grow_d5877 yJx4a65c_grow_d5877) ∈ WG := WG_sel (y := yJx4a65c_grow_d5877) (n := 3) (i := 1) (by decide +kernel)
theorem we_Jx4a65c_grow_92f84 : (Cond.selects RJx4a65c yJx4a65c_grow_92f84 yJx4a65c_grow_92f84) ∈ WG := WG_sel (y := yJx4a65c_grow_92f84) (n := 3) (i := 2) (by decide +kernel)
theorem we_X10_masterOf : (Cond.selects RX10 yX10_masterOf yX10_masterOf) ∈ WG := WG_sel (y := yX10_masterOf) (n := 11) (i := 3) (by decide +kernel)
theorem we_X6_isDoneBefore : (Cond.selects RX6 yX6_isDoneBefore yX6_isDoneBefore) ∈ WG := WG_sel (y := yX6_isDoneBefore) (n := 8) (i := 4) (by decide +kernel)
theorem we_X6_isDone : (Cond.selects RX6 yX6_isDone yX6_isDone) ∈ WG := WG_sel (y := yX6_isDone) (n := 8) (i := 5) (by decide +kernel)
theorem we_X6_isUpdate : (Cond.selects RX6 yX6_isUpdate yX6_isUpdate) ∈ WG := WG_sel (y := yX6_isUpdate) (n := 8) (i := 6) (by decide +kernel)
theorem we_X6_valueAfter : (Cond.selects RX6 yX6_valueAfter yX6_valueAfter) ∈ WG := WG_sel (y := yX6_valueAfter) (n := 8) (i := 7) (by decide +kernel)
theorem we_X7_size : (Cond.selects RX7 yX7_size yX7_size) ∈ WG := WG_sel (y := yX7_size) (n := 2) (i := 8) (by decide +kernel)
theorem we_Throwable_fillInStackTrace : (Cond.selects "java/lang/Throwable" ⟨"java/lang/Throwable", "fillInStackTrace", "(I)Ljava/lang/Throwable;"⟩ ⟨"java/lang/Throwable", "fillInStackTrace", "(I)Ljava/lang/Throwable;"⟩) ∈ WG := WG_sel (y := ⟨"java/lang/Throwable", "fillInStackTrace", "(I)Ljava/lang/Throwable;"⟩) (n := 6) (i := 9) (by decide +kernel)
theorem we_X2_isBusy : (Cond.selects RX2 yX2_isBusy yX2_isBusy) ∈ WG := WG_sel (y := yX2_isBusy) (n := 6) (i := 10) (by decide +kernel)
theorem we_X2_latestNumber : (Cond.selects RX2 yX2_latestNumber yX2_latestNumber) ∈ WG := WG_sel (y := yX2_latestNumber) (n := 6) (i := 11) (by decide +kernel)
theorem we_X10_sendRequest : (Cond.selects RX10 yX10_sendRequest yX10_sendRequest) ∈ WG := WG_sel (y := yX10_sendRequest) (n := 11) (i := 12) (by decide +kernel)
theorem we_X2_forgetReplies : (Cond.selects RX2 yX2_forgetReplies yX2_forgetReplies) ∈ WG := WG_sel (y := yX2_forgetReplies) (n := 6) (i := 13) (by decide +kernel)
theorem we_X7_send : (Cond.selects RX7 yX7_send yX7_send) ∈ WG := WG_sel (y := yX7_send) (n := 2) (i := 14) (by decide +kernel)
theorem we_X10_tryAgain : (Cond.selects RX10 yX10_tryAgain yX10_tryAgain) ∈ WG := WG_sel (y := yX10_tryAgain) (n := 11) (i := 15) (by decide +kernel)
theorem we_X7_take : (Cond.selects RX7 yX7_take yX7_take) ∈ WG := WG_sel (y := yX7_take) (n := 2) (i := 16) (by decide +kernel)
theorem we_Jx4a65c_fastRemove_b59b0 : (Cond.selects RJx4a65c yJx4a65c_fastRemove_b59b0 yJx4a65c_fastRemove_b59b0) ∈ WG := WG_sel (y := yJx4a65c_fastRemove_b59b0) (n := 3) (i := 17) (by decide +kernel)
theorem we_X10_readAtMaster : (Cond.selects RX10 yX10_readAtMaster yX10_readAtMaster) ∈ WG := WG_sel (y := yX10_readAtMaster) (n := 11) (i := 18) (by decide +kernel)
theorem we_X10_livingMasterOf : (Cond.selects RX10 yX10_livingMasterOf yX10_livingMasterOf) ∈ WG := WG_sel (y := yX10_livingMasterOf) (n := 11) (i := 19) (by decide +kernel)
theorem we_X5_readAck : (Cond.selects RX5 yX5_readAck yX5_readAck) ∈ WG := WG_sel (y := yX5_readAck) (n := 12) (i := 20) (by decide +kernel)
theorem we_X5_confirmGets : (Cond.selects RX5 yX5_confirmGets yX5_confirmGets) ∈ WG := WG_sel (y := yX5_confirmGets) (n := 12) (i := 21) (by decide +kernel)
theorem we_X5_leastTold : (Cond.selects RX5 yX5_leastTold yX5_leastTold) ∈ WG := WG_sel (y := yX5_leastTold) (n := 12) (i := 22) (by decide +kernel)
theorem we_X5_answerAwaited : (Cond.selects RX5 yX5_answerAwaited yX5_answerAwaited) ∈ WG := WG_sel (y := yX5_answerAwaited) (n := 12) (i := 23) (by decide +kernel)
theorem we_X5_sendAnswer : (Cond.selects RX5 yX5_sendAnswer yX5_sendAnswer) ∈ WG := WG_sel (y := yX5_sendAnswer) (n := 12) (i := 24) (by decide +kernel)
theorem we_X5_sendResets : (Cond.selects RX5 yX5_sendResets yX5_sendResets) ∈ WG := WG_sel (y := yX5_sendResets) (n := 12) (i := 25) (by decide +kernel)
theorem we_X5_sendGcs : (Cond.selects RX5 yX5_sendGcs yX5_sendGcs) ∈ WG := WG_sel (y := yX5_sendGcs) (n := 12) (i := 26) (by decide +kernel)
theorem we_X5_answerGets : (Cond.selects RX5 yX5_answerGets yX5_answerGets) ∈ WG := WG_sel (y := yX5_answerGets) (n := 12) (i := 27) (by decide +kernel)
theorem we_X5_isReady : (Cond.selects RX5 yX5_isReady yX5_isReady) ∈ WG := WG_sel (y := yX5_isReady) (n := 12) (i := 28) (by decide +kernel)
theorem we_X5_readExec : (Cond.selects RX5 yX5_readExec yX5_readExec) ∈ WG := WG_sel (y := yX5_readExec) (n := 12) (i := 29) (by decide +kernel)
theorem we_X5_placeOf : (Cond.selects RX5 yX5_placeOf yX5_placeOf) ∈ WG := WG_sel (y := yX5_placeOf) (n := 12) (i := 30) (by decide +kernel)
theorem we_X5_answerAgain : (Cond.selects RX5 yX5_answerAgain yX5_answerAgain) ∈ WG := WG_sel (y := yX5_answerAgain) (n := 12) (i := 31) (by decide +kernel)
theorem we_X5_sendSyncs : (Cond.selects RX5 yX5_sendSyncs yX5_sendSyncs) ∈ WG := WG_sel (y := yX5_sendSyncs) (n := 12) (i := 32) (by decide +kernel)
theorem we_X5_hasLaterOneThan : (Cond.selects RX5 yX5_hasLaterOneThan yX5_hasLaterOneThan) ∈ WG := WG_sel (y := yX5_hasLaterOneThan) (n := 12) (i := 33) (by decide +kernel)
theorem we_X5_execute : (Cond.selects RX5 yX5_execute yX5_execute) ∈ WG := WG_sel (y := yX5_execute) (n := 12) (i := 34) (by decide +kernel)
theorem we_X5_hasUnsyncedOf : (Cond.selects RX5 yX5_hasUnsyncedOf yX5_hasUnsyncedOf) ∈ WG := WG_sel (y := yX5_hasUnsyncedOf) (n := 12) (i := 35) (by decide +kernel)
theorem we_X5_append : (Cond.selects RX5 yX5_append yX5_append) ∈ WG := WG_sel (y := yX5_append) (n := 12) (i := 36) (by decide +kernel)
theorem we_X5_valueOf : (Cond.selects RX5 yX5_valueOf yX5_valueOf) ∈ WG := WG_sel (y := yX5_valueOf) (n := 12) (i := 37) (by decide +kernel)
theorem we_X6_answerAfter : (Cond.selects RX6 yX6_answerAfter yX6_answerAfter) ∈ WG := WG_sel (y := yX6_answerAfter) (n := 8) (i := 38) (by decide +kernel)
theorem we_X5_letWait : (Cond.selects RX5 yX5_letWait yX5_letWait) ∈ WG := WG_sel (y := yX5_letWait) (n := 12) (i := 39) (by decide +kernel)
theorem we_X5_readSyncNow : (Cond.selects RX5 yX5_readSyncNow yX5_readSyncNow) ∈ WG := WG_sel (y := yX5_readSyncNow) (n := 12) (i := 40) (by decide +kernel)
theorem we_X10_readAtClient : (Cond.selects RX10 yX10_readAtClient yX10_readAtClient) ∈ WG := WG_sel (y := yX10_readAtClient) (n := 11) (i := 41) (by decide +kernel)
theorem we_X10_finishIfAccepted : (Cond.selects RX10 yX10_finishIfAccepted yX10_finishIfAccepted) ∈ WG := WG_sel (y := yX10_finishIfAccepted) (n := 11) (i := 42) (by decide +kernel)
theorem we_X10_finish : (Cond.selects RX10 yX10_finish yX10_finish) ∈ WG := WG_sel (y := yX10_finish) (n := 11) (i := 43) (by decide +kernel)
theorem we_X10_readAnswer : (Cond.selects RX10 yX10_readAnswer yX10_readAnswer) ∈ WG := WG_sel (y := yX10_readAnswer) (n := 11) (i := 44) (by decide +kernel)
theorem we_X10_readAtBackup : (Cond.selects RX10 yX10_readAtBackup yX10_readAtBackup) ∈ WG := WG_sel (y := yX10_readAtBackup) (n := 11) (i := 45) (by decide +kernel)
theorem we_X1_readSync : (Cond.selects RX1 yX1_readSync yX1_readSync) ∈ WG := WG_sel (y := yX1_readSync) (n := 3) (i := 46) (by decide +kernel)
theorem we_X10_readAtWitness : (Cond.selects RX10 yX10_readAtWitness yX10_readAtWitness) ∈ WG := WG_sel (y := yX10_readAtWitness) (n := 11) (i := 47) (by decide +kernel)
theorem we_X9_readReset : (Cond.selects RX9 yX9_readReset yX9_readReset) ∈ WG := WG_sel (y := yX9_readReset) (n := 6) (i := 48) (by decide +kernel)
theorem we_X9_drop : (Cond.selects RX9 yX9_drop yX9_drop) ∈ WG := WG_sel (y := yX9_drop) (n := 6) (i := 49) (by decide +kernel)
theorem we_X9_readRecord : (Cond.selects RX9 yX9_readRecord yX9_readRecord) ∈ WG := WG_sel (y := yX9_readRecord) (n := 6) (i := 50) (by decide +kernel)
theorem we_X7_at : (Cond.selects RX7 yX7_at yX7_at) ∈ WG := WG_sel (y := yX7_at) (n := 2) (i := 51) (by decide +kernel)
theorem we_X5_fall : (Cond.selects RX5 yX5_fall yX5_fall) ∈ WG := WG_sel (y := yX5_fall) (n := 12) (i := 52) (by decide +kernel)
theorem we_X5_takeLog : (Cond.selects RX5 yX5_takeLog yX5_takeLog) ∈ WG := WG_sel (y := yX5_takeLog) (n := 12) (i := 53) (by decide +kernel)
theorem we_X5_takeRecords : (Cond.selects RX5 yX5_takeRecords yX5_takeRecords) ∈ WG := WG_sel (y := yX5_takeRecords) (n := 12) (i := 54) (by decide +kernel)
theorem we_X9_recordBehind : (Cond.selects RX9 yX9_recordBehind yX9_recordBehind) ∈ WG := WG_sel (y := yX9_recordBehind) (n := 6) (i := 55) (by decide +kernel)
theorem we_X6_comesBehind : (Cond.selects RX6 yX6_comesBehind yX6_comesBehind) ∈ WG := WG_sel (y := yX6_comesBehind) (n := 8) (i := 56) (by decide +kernel)
theorem we_X2_told : (Cond.selects RX2 yX2_told yX2_told) ∈ WG := WG_sel (y := yX2_told) (n := 6) (i := 57) (by decide +kernel)
theorem we_X9_held : (Cond.selects RX9 yX9_held yX9_held) ∈ WG := WG_sel (y := yX9_held) (n := 6) (i := 58) (by decide +kernel)
theorem we_X9_keysHeld : (Cond.selects RX9 yX9_keysHeld yX9_keysHeld) ∈ WG := WG_sel (y := yX9_keysHeld) (n := 6) (i := 59) (by decide +kernel)
theorem we_X11_rises : (Cond.selects RX11 yX11_rises yX11_rises) ∈ WG := WG_sel (y := yX11_rises) (n := 55) (i := 60) (by decide +kernel)
theorem we_X11_throwsIf : (Cond.selects RX11 yX11_throwsIf yX11_throwsIf) ∈ WG := WG_sel (y := yX11_throwsIf) (n := 55) (i := 61) (by decide +kernel)
theorem we_X11_isOpen : (Cond.selects RX11 yX11_isOpen yX11_isOpen) ∈ WG := WG_sel (y := yX11_isOpen) (n := 55) (i := 62) (by decide +kernel)
theorem we_X11_begins : (Cond.selects RX11 yX11_begins yX11_begins) ∈ WG := WG_sel (y := yX11_begins) (n := 55) (i := 63) (by decide +kernel)
theorem we_X11_sendOp : (Cond.selects RX11 yX11_sendOp yX11_sendOp) ∈ WG := WG_sel (y := yX11_sendOp) (n := 55) (i := 64) (by decide +kernel)
theorem we_X11_send : (Cond.selects RX11 yX11_send yX11_send) ∈ WG := WG_sel (y := yX11_send) (n := 55) (i := 65) (by decide +kernel)
theorem we_X11_noLetter : (Cond.selects RX11 yX11_noLetter yX11_noLetter) ∈ WG := WG_sel (y := yX11_noLetter) (n := 55) (i := 66) (by decide +kernel)
theorem we_X11_takes : (Cond.selects RX11 yX11_takes yX11_takes) ∈ WG := WG_sel (y := yX11_takes) (n := 55) (i := 67) (by decide +kernel)
theorem we_X11_reads : (Cond.selects RX11 yX11_reads yX11_reads) ∈ WG := WG_sel (y := yX11_reads) (n := 55) (i := 68) (by decide +kernel)
theorem we_X11_place : (Cond.selects RX11 yX11_place yX11_place) ∈ WG := WG_sel (y := yX11_place) (n := 55) (i := 69) (by decide +kernel)
theorem we_X11_answers : (Cond.selects RX11 yX11_answers yX11_answers) ∈ WG := WG_sel (y := yX11_answers) (n := 55) (i := 70) (by decide +kernel)
theorem we_X11_syncs : (Cond.selects RX11 yX11_syncs yX11_syncs) ∈ WG := WG_sel (y := yX11_syncs) (n := 55) (i := 71) (by decide +kernel)
theorem we_X11_hasGreater : (Cond.selects RX11 yX11_hasGreater yX11_hasGreater) ∈ WG := WG_sel (y := yX11_hasGreater) (n := 55) (i := 72) (by decide +kernel)
theorem we_X11_waitsFor : (Cond.selects RX11 yX11_waitsFor yX11_waitsFor) ∈ WG := WG_sel (y := yX11_waitsFor) (n := 55) (i := 73) (by decide +kernel)
theorem we_X11_isKeyBehind : (Cond.selects RX11 yX11_isKeyBehind yX11_isKeyBehind) ∈ WG := WG_sel (y := yX11_isKeyBehind) (n := 55) (i := 74) (by decide +kernel)
theorem we_X11_appends : (Cond.selects RX11 yX11_appends yX11_appends) ∈ WG := WG_sel (y := yX11_appends) (n := 55) (i := 75) (by decide +kernel)
theorem we_X11_valueAt : (Cond.selects RX11 yX11_valueAt yX11_valueAt) ∈ WG := WG_sel (y := yX11_valueAt) (n := 55) (i := 76) (by decide +kernel)
theorem we_X11_readsSyncNow : (Cond.selects RX11 yX11_readsSyncNow yX11_readsSyncNow) ∈ WG := WG_sel (y := yX11_readsSyncNow) (n := 55) (i := 77) (by decide +kernel)
theorem we_X11_readsAck : (Cond.selects RX11 yX11_readsAck yX11_readsAck) ∈ WG := WG_sel (y := yX11_readsAck) (n := 55) (i := 78) (by decide +kernel)
theorem we_X11_leastKnown : (Cond.selects RX11 yX11_leastKnown yX11_leastKnown) ∈ WG := WG_sel (y := yX11_leastKnown) (n := 55) (i := 79) (by decide +kernel)
theorem we_X11_resets : (Cond.selects RX11 yX11_resets yX11_resets) ∈ WG := WG_sel (y := yX11_resets) (n := 55) (i := 80) (by decide +kernel)
theorem we_X11_answersGets : (Cond.selects RX11 yX11_answersGets yX11_answersGets) ∈ WG := WG_sel (y := yX11_answersGets) (n := 55) (i := 81) (by decide +kernel)
theorem we_X11_readsSync : (Cond.selects RX11 yX11_readsSync yX11_readsSync) ∈ WG := WG_sel (y := yX11_readsSync) (n := 55) (i := 82) (by decide +kernel)
theorem we_X11_readsRecord : (Cond.selects RX11 yX11_readsRecord yX11_readsRecord) ∈ WG := WG_sel (y := yX11_readsRecord) (n := 55) (i := 83) (by decide +kernel)
theorem we_X11_holds : (Cond.selects RX11 yX11_holds yX11_holds) ∈ WG := WG_sel (y := yX11_holds) (n := 55) (i := 84) (by decide +kernel)
theorem we_X11_hasRoom : (Cond.selects RX11 yX11_hasRoom yX11_hasRoom) ∈ WG := WG_sel (y := yX11_hasRoom) (n := 55) (i := 85) (by decide +kernel)
theorem we_X11_readsGc : (Cond.selects RX11 yX11_readsGc yX11_readsGc) ∈ WG := WG_sel (y := yX11_readsGc) (n := 55) (i := 86) (by decide +kernel)
theorem we_X11_readsReset : (Cond.selects RX11 yX11_readsReset yX11_readsReset) ∈ WG := WG_sel (y := yX11_readsReset) (n := 55) (i := 87) (by decide +kernel)
theorem we_X11_readsClient : (Cond.selects RX11 yX11_readsClient yX11_readsClient) ∈ WG := WG_sel (y := yX11_readsClient) (n := 55) (i := 88) (by decide +kernel)
theorem we_X11_ends : (Cond.selects RX11 yX11_ends yX11_ends) ∈ WG := WG_sel (y := yX11_ends) (n := 55) (i := 89) (by decide +kernel)
theorem we_X11_noEpoch : (Cond.selects RX11 yX11_noEpoch yX11_noEpoch) ∈ WG := WG_sel (y := yX11_noEpoch) (n := 55) (i := 90) (by decide +kernel)
theorem we_X11_replays : (Cond.selects RX11 yX11_replays yX11_replays) ∈ WG := WG_sel (y := yX11_replays) (n := 55) (i := 91) (by decide +kernel)
theorem we_X11_isOnce : (Cond.selects RX11 yX11_isOnce yX11_isOnce) ∈ WG := WG_sel (y := yX11_isOnce) (n := 55) (i := 92) (by decide +kernel)
theorem we_X11_areInOrder : (Cond.selects RX11 yX11_areInOrder yX11_areInOrder) ∈ WG := WG_sel (y := yX11_areInOrder) (n := 55) (i := 93) (by decide +kernel)
theorem we_X11_isSeen : (Cond.selects RX11 yX11_isSeen yX11_isSeen) ∈ WG := WG_sel (y := yX11_isSeen) (n := 55) (i := 94) (by decide +kernel)
def WN : List Cond := [Cond.methodLinkNest RX10 25 yX7_init "OneTrip", Cond.fieldLinkNest RX10 250 "OneTrip$Row" "overflowed" "I" "OneTrip", Cond.methodLinkNest RX10 36 yX2_init "OneTrip", Cond.fieldLinkNest RX10 118 "OneTrip$Client" "epoch" "I" "OneTrip", Cond.fieldLinkNest RX10 103 "OneTrip$Client" "latest" "LOneTrip$Operation;" "OneTrip", Cond.fieldLinkNest RX10 211 "OneTrip$Client" "accepts" "I" "OneTrip", Cond.fieldLinkNest RX10 220 "OneTrip$Client" "answered" "Z" "OneTrip", Cond.fieldLinkNest RX10 334 "OneTrip$Client" "answer" "I" "OneTrip", Cond.fieldLinkNest RX10 223 "OneTrip$Client" "finishedByAccepts" "I" "OneTrip", Cond.methodLinkNest RX10 49 yX1_init "OneTrip", Cond.fieldLinkNest RX4 44 "OneTrip$Backup" "id" "I" "OneTrip", Cond.fieldLinkNest RX10 173 "OneTrip$Backup" "epoch" "I" "OneTrip", Cond.fieldLinkNest RX4 49 "OneTrip$Backup" "has" "I" "OneTrip", Cond.fieldLinkNest RX10 178 "OneTrip$Backup" "has" "I" "OneTrip", Cond.methodLinkNest RX10 52 yX9_init "OneTrip", Cond.fieldLinkNest RX10 320 "OneTrip$Witness" "id" "I" "OneTrip", Cond.fieldLinkNest RX5 82 "OneTrip$Witness" "places" "[LOneTrip$Operation;" "OneTrip", Cond.fieldLinkNest RX10 195 "OneTrip$Witness" "epoch" "I" "OneTrip", Cond.fieldLinkNest RX10 196 "OneTrip$Witness" "frozen" "Z" "OneTrip", Cond.methodLinkNest RX10 64 yX5_init "OneTrip", Cond.fieldLinkNest RX10 189 "OneTrip$Master" "log" "Ljava/util/ArrayList;" "OneTrip", Cond.fieldLinkNest RX10 229 "OneTrip$Master" "gets" "Ljava/util/ArrayList;" "OneTrip", Cond.fieldLinkNest RX10 154 "OneTrip$Master" "lives" "Z" "OneTrip", Cond.fieldLinkNest RX10 161 "OneTrip$Master" "settled" "Z" "OneTrip", Cond.fieldLinkNest RX10 192 "OneTrip$Master" "began" "I" "OneTrip", Cond.fieldLinkNest RX10 226 "OneTrip$Master" "synced" "I" "OneTrip", Cond.methodLinkNest RX10 241 yX0_passes "OneTrip", Cond.methodLinkNest RX0 55 yX6_isDoneBefore "OneTrip", Cond.methodLinkNest RX0 25 yX6_isDone "OneTrip", Cond.methodLinkNest RX0 29 yX6_isUpdate "OneTrip", Cond.methodLinkNest RX0 65 yX6_valueAfter "OneTrip", Cond.methodLinkNest RX10 121 yX7_size "OneTrip", Cond.methodLinkNest RX10 81 yX2_isBusy "OneTrip", Cond.methodLinkNest RX2 13 yX6_isDone "OneTrip", Cond.methodLinkNest RX10 91 yX2_latestNumber "OneTrip", Cond.methodLinkNest RX10 94 yX6_init "OneTrip", Cond.fieldLinkNest RX4 35 "OneTrip$Operation" "asker" "I" "OneTrip", Cond.fieldLinkNest RX5 116 "OneTrip$Operation" "asker" "I" "OneTrip", Cond.fieldLinkNest RX4 40 "OneTrip$Operation" "number" "I" "OneTrip", Cond.fieldLinkNest RX10 111 "OneTrip$Operation" "number" "I" "OneTrip", Cond.fieldLinkNest RX2 19 "OneTrip$Operation" "number" "I" "OneTrip", Cond.fieldLinkNest RX5 119 "OneTrip$Operation" "number" "I" "OneTrip", Cond.fieldLinkNest RX9 40 "OneTrip$Operation" "key" "I" "OneTrip", Cond.fieldLinkNest RX0 52 "OneTrip$Operation" "key" "I" "OneTrip", Cond.fieldLinkNest RX5 94 "OneTrip$Operation" "key" "I" "OneTrip", Cond.fieldLinkNest RX10 100 "OneTrip$Operation" "askedAt" "I" "OneTrip", Cond.fieldLinkNest RX10 343 "OneTrip$Operation" "doneAt" "I" "OneTrip", Cond.fieldLinkNest RX0 49 "OneTrip$Operation" "told" "I" "OneTrip", Cond.fieldLinkNest RX2 23 "OneTrip$Operation" "told" "I" "OneTrip", Cond.fieldLinkNest RX10 346 "OneTrip$Operation" "told" "I" "OneTrip", Cond.methodLinkNest RX10 270 yX2_forgetReplies "OneTrip", Cond.methodLinkNest RX10 273 yX4_toMaster "OneTrip", Cond.fieldLinkNest RX10 126 "OneTrip$Letter" "kind" "I" "OneTrip", Cond.fieldLinkNest RX10 199 "OneTrip$Letter" "epoch" "I" "OneTrip", Cond.fieldLinkNest RX10 200 "OneTrip$Letter" "who" "I" "OneTrip", Cond.fieldLinkNest RX10 292 "OneTrip$Letter" "op" "LOneTrip$Operation;" "OneTrip", Cond.fieldLinkNest RX10 203 "OneTrip$Letter" "number" "I" "OneTrip", Cond.fieldLinkNest RX10 286 "OneTrip$Letter" "extra" "I" "OneTrip", Cond.fieldLinkNest RX10 337 "OneTrip$Letter" "safe" "Z" "OneTrip", Cond.methodLinkNest RX10 147 yX7_send "OneTrip", Cond.methodLinkNest RX10 277 yX6_isUpdate "OneTrip", Cond.methodLinkNest RX10 280 yX4_toRecord "OneTrip", Cond.methodLinkNest RX10 267 yX6_isDone "OneTrip", Cond.methodLinkNest RX10 122 yX7_take "OneTrip", Cond.methodLinkNest RX10 289 yX5_readAck "OneTrip", Cond.methodLinkNest RX5 205 yX4_toAnswer "OneTrip", Cond.methodLinkNest RX5 211 yX7_send "OneTrip", Cond.methodLinkNest RX5 235 yX4_toWitness "OneTrip", Cond.methodLinkNest RX10 295 yX5_readExec "OneTrip", Cond.methodLinkNest RX5 231 yX4_toSync "OneTrip", Cond.methodLinkNest RX5 129 yX6_isUpdate "OneTrip", Cond.methodLinkNest RX5 103 yX6_answerAfter "OneTrip", Cond.methodLinkNest RX5 106 yX3_init "OneTrip", Cond.fieldLinkNest RX0 41 "OneTrip$Entry" "op" "LOneTrip$Operation;" "OneTrip", Cond.fieldLinkNest RX5 68 "OneTrip$Entry" "op" "LOneTrip$Operation;" "OneTrip", Cond.fieldLinkNest RX0 45 "OneTrip$Entry" "answer" "I" "OneTrip", Cond.fieldLinkNest RX5 228 "OneTrip$Entry" "answer" "I" "OneTrip", Cond.fieldLinkNest RX5 144 "OneTrip$Entry" "late" "Z" "OneTrip", Cond.fieldLinkNest RX5 163 "OneTrip$Entry" "wantedNow" "Z" "OneTrip", Cond.methodLinkNest RX5 113 yX6_valueAfter "OneTrip", Cond.methodLinkNest RX5 160 yX8_init "OneTrip", Cond.fieldLinkNest RX5 156 "OneTrip$WaitingGet" "op" "LOneTrip$Operation;" "OneTrip", Cond.fieldLinkNest RX5 225 "OneTrip$WaitingGet" "place" "I" "OneTrip", Cond.fieldLinkNest RX5 202 "OneTrip$WaitingGet" "valueThere" "I" "OneTrip", Cond.fieldLinkNest RX5 194 "OneTrip$WaitingGet" "syncs" "I" "OneTrip", Cond.fieldLinkNest RX5 195 "OneTrip$WaitingGet" "confirmed" "I" "OneTrip", Cond.methodLinkNest RX10 299 yX5_readSyncNow "OneTrip", Cond.methodLinkNest RX10 302 yX1_readSync "OneTrip", Cond.methodLinkNest RX10 306 yX4_toAck "OneTrip", Cond.methodLinkNest RX10 310 yX9_readReset "OneTrip", Cond.methodLinkNest RX10 313 yX9_drop "OneTrip", Cond.methodLinkNest RX9 43 yX5_placeOf "OneTrip", Cond.methodLinkNest RX10 316 yX9_readRecord "OneTrip", Cond.methodLinkNest RX10 323 yX4_toClient "OneTrip", Cond.methodLinkNest RX10 144 yX7_at "OneTrip", Cond.methodLinkNest RX10 158 yX5_sendSyncs "OneTrip", Cond.methodLinkNest RX10 164 yX5_sendResets "OneTrip", Cond.methodLinkNest RX10 167 yX5_fall "OneTrip", Cond.methodLinkNest RX10 181 yX5_takeLog "OneTrip", Cond.methodLinkNest RX10 185 yX5_takeRecords "OneTrip", Cond.methodLinkNest RX5 76 yX9_recordBehind "OneTrip", Cond.methodLinkNest RX9 49 yX6_comesBehind "OneTrip", Cond.methodLinkNest RX10 208 yX2_told "OneTrip", Cond.methodLinkNest RX10 232 yX5_valueOf "OneTrip", Cond.methodLinkNest RX10 235 yX9_held "OneTrip", Cond.methodLinkNest RX10 238 yX9_keysHeld "OneTrip"]
theorem wm_RX10_25 : (Cond.methodLinkNest RX10 25 yX7_init "OneTrip") ∈ WN := List.mem_of_getElem? (i := 0) rfl
theorem wf_RX10_250 : (Cond.fieldLinkNest RX10 250 "OneTrip$Row" "overflowed" "I" "OneTrip") ∈ WN := List.mem_of_getElem? (i := 1) rfl
theorem wm_RX10_36 : (Cond.methodLinkNest RX10 36 yX2_init "OneTrip") ∈ WN := List.mem_of_getElem? (i := 2) rfl
theorem wf_RX10_118 : (Cond.fieldLinkNest RX10 118 "OneTrip$Client" "epoch" "I" "OneTrip") ∈ WN := List.mem_of_getElem? (i := 3) rfl
theorem wf_RX10_103 : (Cond.fieldLinkNest RX10 103 "OneTrip$Client" "latest" "LOneTrip$Operation;" "OneTrip") ∈ WN := List.mem_of_getElem? (i := 4) rfl
theorem wf_RX10_211 : (Cond.fieldLinkNest RX10 211 "OneTrip$Client" "accepts" "I" "OneTrip") ∈ WN := List.mem_of_getElem? (i := 5) rfl
theorem wf_RX10_220 : (Cond.fieldLinkNest RX10 220 "OneTrip$Client" "answered" "Z" "OneTrip") ∈ WN := List.mem_of_getElem? (i := 6) rfl
theorem wf_RX10_334 : (Cond.fieldLinkNest RX10 334 "OneTrip$Client" "answer" "I" "OneTrip") ∈ WN := List.mem_of_getElem? (i := 7) rfl
theorem wf_RX10_223 : (Cond.fieldLinkNest RX10 223 "OneTrip$Client" "finishedByAccepts" "I" "OneTrip") ∈ WN := List.mem_of_getElem? (i := 8) rfl
theorem wm_RX10_49 : (Cond.methodLinkNest RX10 49 yX1_init "OneTrip") ∈ WN := List.mem_of_getElem? (i := 9) rfl
theorem wf_RX4_44 : (Cond.fieldLinkNest RX4 44 "OneTrip$Backup" "id" "I" "OneTrip") ∈ WN := List.mem_of_getElem? (i := 10) rfl
theorem wf_RX10_173 : (Cond.fieldLinkNest RX10 173 "OneTrip$Backup" "epoch" "I" "OneTrip") ∈ WN := List.mem_of_getElem? (i := 11) rfl
theorem wf_RX4_49 : (Cond.fieldLinkNest RX4 49 "OneTrip$Backup" "has" "I" "OneTrip") ∈ WN := List.mem_of_getElem? (i := 12) rfl
theorem wf_RX10_178 : (Cond.fieldLinkNest RX10 178 "OneTrip$Backup" "has" "I" "OneTrip") ∈ WN := List.mem_of_getElem? (i := 13) rfl
theorem wm_RX10_52 : (Cond.methodLinkNest RX10 52 yX9_init "OneTrip") ∈ WN := List.mem_of_getElem? (i := 14) rfl
theorem wf_RX10_320 : (Cond.fieldLinkNest RX10 320 "OneTrip$Witness" "id" "I" "OneTrip") ∈ WN := List.mem_of_getElem? (i := 15) rfl
theorem wf_RX5_82 : (Cond.fieldLinkNest RX5 82 "OneTrip$Witness" "places" "[LOneTrip$Operation;" "OneTrip") ∈ WN := List.mem_of_getElem? (i := 16) rfl
theorem wf_RX10_195 : (Cond.fieldLinkNest RX10 195 "OneTrip$Witness" "epoch" "I" "OneTrip") ∈ WN := List.mem_of_getElem? (i := 17) rfl
theorem wf_RX10_196 : (Cond.fieldLinkNest RX10 196 "OneTrip$Witness" "frozen" "Z" "OneTrip") ∈ WN := List.mem_of_getElem? (i := 18) rfl
theorem wm_RX10_64 : (Cond.methodLinkNest RX10 64 yX5_init "OneTrip") ∈ WN := List.mem_of_getElem? (i := 19) rfl
theorem wf_RX10_189 : (Cond.fieldLinkNest RX10 189 "OneTrip$Master" "log" "Ljava/util/ArrayList;" "OneTrip") ∈ WN := List.mem_of_getElem? (i := 20) rfl
theorem wf_RX10_229 : (Cond.fieldLinkNest RX10 229 "OneTrip$Master" "gets" "Ljava/util/ArrayList;" "OneTrip") ∈ WN := List.mem_of_getElem? (i := 21) rfl
theorem wf_RX10_154 : (Cond.fieldLinkNest RX10 154 "OneTrip$Master" "lives" "Z" "OneTrip") ∈ WN := List.mem_of_getElem? (i := 22) rfl
theorem wf_RX10_161 : (Cond.fieldLinkNest RX10 161 "OneTrip$Master" "settled" "Z" "OneTrip") ∈ WN := List.mem_of_getElem? (i := 23) rfl
theorem wf_RX10_192 : (Cond.fieldLinkNest RX10 192 "OneTrip$Master" "began" "I" "OneTrip") ∈ WN := List.mem_of_getElem? (i := 24) rfl
theorem wf_RX10_226 : (Cond.fieldLinkNest RX10 226 "OneTrip$Master" "synced" "I" "OneTrip") ∈ WN := List.mem_of_getElem? (i := 25) rfl
theorem wm_RX10_241 : (Cond.methodLinkNest RX10 241 yX0_passes "OneTrip") ∈ WN := List.mem_of_getElem? (i := 26) rfl
theorem wm_RX0_55 : (Cond.methodLinkNest RX0 55 yX6_isDoneBefore "OneTrip") ∈ WN := List.mem_of_getElem? (i := 27) rfl
theorem wm_RX0_25 : (Cond.methodLinkNest RX0 25 yX6_isDone "OneTrip") ∈ WN := List.mem_of_getElem? (i := 28) rfl
theorem wm_RX0_29 : (Cond.methodLinkNest RX0 29 yX6_isUpdate "OneTrip") ∈ WN := List.mem_of_getElem? (i := 29) rfl
theorem wm_RX0_65 : (Cond.methodLinkNest RX0 65 yX6_valueAfter "OneTrip") ∈ WN := List.mem_of_getElem? (i := 30) rfl
theorem wm_RX10_121 : (Cond.methodLinkNest RX10 121 yX7_size "OneTrip") ∈ WN := List.mem_of_getElem? (i := 31) rfl
theorem wm_RX10_81 : (Cond.methodLinkNest RX10 81 yX2_isBusy "OneTrip") ∈ WN := List.mem_of_getElem? (i := 32) rfl
theorem wm_RX2_13 : (Cond.methodLinkNest RX2 13 yX6_isDone "OneTrip") ∈ WN := List.mem_of_getElem? (i := 33) rfl
theorem wm_RX10_91 : (Cond.methodLinkNest RX10 91 yX2_latestNumber "OneTrip") ∈ WN := List.mem_of_getElem? (i := 34) rfl
theorem wm_RX10_94 : (Cond.methodLinkNest RX10 94 yX6_init "OneTrip") ∈ WN := List.mem_of_getElem? (i := 35) rfl
theorem wf_RX4_35 : (Cond.fieldLinkNest RX4 35 "OneTrip$Operation" "asker" "I" "OneTrip") ∈ WN := List.mem_of_getElem? (i := 36) rfl
theorem wf_RX5_116 : (Cond.fieldLinkNest RX5 116 "OneTrip$Operation" "asker" "I" "OneTrip") ∈ WN := List.mem_of_getElem? (i := 37) rfl
theorem wf_RX4_40 : (Cond.fieldLinkNest RX4 40 "OneTrip$Operation" "number" "I" "OneTrip") ∈ WN := List.mem_of_getElem? (i := 38) rfl
theorem wf_RX10_111 : (Cond.fieldLinkNest RX10 111 "OneTrip$Operation" "number" "I" "OneTrip") ∈ WN := List.mem_of_getElem? (i := 39) rfl
theorem wf_RX2_19 : (Cond.fieldLinkNest RX2 19 "OneTrip$Operation" "number" "I" "OneTrip") ∈ WN := List.mem_of_getElem? (i := 40) rfl
theorem wf_RX5_119 : (Cond.fieldLinkNest RX5 119 "OneTrip$Operation" "number" "I" "OneTrip") ∈ WN := List.mem_of_getElem? (i := 41) rfl
theorem wf_RX9_40 : (Cond.fieldLinkNest RX9 40 "OneTrip$Operation" "key" "I" "OneTrip") ∈ WN := List.mem_of_getElem? (i := 42) rfl
theorem wf_RX0_52 : (Cond.fieldLinkNest RX0 52 "OneTrip$Operation" "key" "I" "OneTrip") ∈ WN := List.mem_of_getElem? (i := 43) rfl
theorem wf_RX5_94 : (Cond.fieldLinkNest RX5 94 "OneTrip$Operation" "key" "I" "OneTrip") ∈ WN := List.mem_of_getElem? (i := 44) rfl
theorem wf_RX10_100 : (Cond.fieldLinkNest RX10 100 "OneTrip$Operation" "askedAt" "I" "OneTrip") ∈ WN := List.mem_of_getElem? (i := 45) rfl
theorem wf_RX10_343 : (Cond.fieldLinkNest RX10 343 "OneTrip$Operation" "doneAt" "I" "OneTrip") ∈ WN := List.mem_of_getElem? (i := 46) rfl
theorem wf_RX0_49 : (Cond.fieldLinkNest RX0 49 "OneTrip$Operation" "told" "I" "OneTrip") ∈ WN := List.mem_of_getElem? (i := 47) rfl
theorem wf_RX2_23 : (Cond.fieldLinkNest RX2 23 "OneTrip$Operation" "told" "I" "OneTrip") ∈ WN := List.mem_of_getElem? (i := 48) rfl
theorem wf_RX10_346 : (Cond.fieldLinkNest RX10 346 "OneTrip$Operation" "told" "I" "OneTrip") ∈ WN := List.mem_of_getElem? (i := 49) rfl
theorem wm_RX10_270 : (Cond.methodLinkNest RX10 270 yX2_forgetReplies "OneTrip") ∈ WN := List.mem_of_getElem? (i := 50) rfl
theorem wm_RX10_273 : (Cond.methodLinkNest RX10 273 yX4_toMaster "OneTrip") ∈ WN := List.mem_of_getElem? (i := 51) rfl
theorem wf_RX10_126 : (Cond.fieldLinkNest RX10 126 "OneTrip$Letter" "kind" "I" "OneTrip") ∈ WN := List.mem_of_getElem? (i := 52) rfl
theorem wf_RX10_199 : (Cond.fieldLinkNest RX10 199 "OneTrip$Letter" "epoch" "I" "OneTrip") ∈ WN := List.mem_of_getElem? (i := 53) rfl
theorem wf_RX10_200 : (Cond.fieldLinkNest RX10 200 "OneTrip$Letter" "who" "I" "OneTrip") ∈ WN := List.mem_of_getElem? (i := 54) rfl
theorem wf_RX10_292 : (Cond.fieldLinkNest RX10 292 "OneTrip$Letter" "op" "LOneTrip$Operation;" "OneTrip") ∈ WN := List.mem_of_getElem? (i := 55) rfl
theorem wf_RX10_203 : (Cond.fieldLinkNest RX10 203 "OneTrip$Letter" "number" "I" "OneTrip") ∈ WN := List.mem_of_getElem? (i := 56) rfl
theorem wf_RX10_286 : (Cond.fieldLinkNest RX10 286 "OneTrip$Letter" "extra" "I" "OneTrip") ∈ WN := List.mem_of_getElem? (i := 57) rfl
theorem wf_RX10_337 : (Cond.fieldLinkNest RX10 337 "OneTrip$Letter" "safe" "Z" "OneTrip") ∈ WN := List.mem_of_getElem? (i := 58) rfl
theorem wm_RX10_147 : (Cond.methodLinkNest RX10 147 yX7_send "OneTrip") ∈ WN := List.mem_of_getElem? (i := 59) rfl
theorem wm_RX10_277 : (Cond.methodLinkNest RX10 277 yX6_isUpdate "OneTrip") ∈ WN := List.mem_of_getElem? (i := 60) rfl
theorem wm_RX10_280 : (Cond.methodLinkNest RX10 280 yX4_toRecord "OneTrip") ∈ WN := List.mem_of_getElem? (i := 61) rfl
theorem wm_RX10_267 : (Cond.methodLinkNest RX10 267 yX6_isDone "OneTrip") ∈ WN := List.mem_of_getElem? (i := 62) rfl
theorem wm_RX10_122 : (Cond.methodLinkNest RX10 122 yX7_take "OneTrip") ∈ WN := List.mem_of_getElem? (i := 63) rfl
theorem wm_RX10_289 : (Cond.methodLinkNest RX10 289 yX5_readAck "OneTrip") ∈ WN := List.mem_of_getElem? (i := 64) rfl
theorem wm_RX5_205 : (Cond.methodLinkNest RX5 205 yX4_toAnswer "OneTrip") ∈ WN := List.mem_of_getElem? (i := 65) rfl
theorem wm_RX5_211 : (Cond.methodLinkNest RX5 211 yX7_send "OneTrip") ∈ WN := List.mem_of_getElem? (i := 66) rfl
theorem wm_RX5_235 : (Cond.methodLinkNest RX5 235 yX4_toWitness "OneTrip") ∈ WN := List.mem_of_getElem? (i := 67) rfl
theorem wm_RX10_295 : (Cond.methodLinkNest RX10 295 yX5_readExec "OneTrip") ∈ WN := List.mem_of_getElem? (i := 68) rfl
theorem wm_RX5_231 : (Cond.methodLinkNest RX5 231 yX4_toSync "OneTrip") ∈ WN := List.mem_of_getElem? (i := 69) rfl
theorem wm_RX5_129 : (Cond.methodLinkNest RX5 129 yX6_isUpdate "OneTrip") ∈ WN := List.mem_of_getElem? (i := 70) rfl
theorem wm_RX5_103 : (Cond.methodLinkNest RX5 103 yX6_answerAfter "OneTrip") ∈ WN := List.mem_of_getElem? (i := 71) rfl
theorem wm_RX5_106 : (Cond.methodLinkNest RX5 106 yX3_init "OneTrip") ∈ WN := List.mem_of_getElem? (i := 72) rfl
theorem wf_RX0_41 : (Cond.fieldLinkNest RX0 41 "OneTrip$Entry" "op" "LOneTrip$Operation;" "OneTrip") ∈ WN := List.mem_of_getElem? (i := 73) rfl
theorem wf_RX5_68 : (Cond.fieldLinkNest RX5 68 "OneTrip$Entry" "op" "LOneTrip$Operation;" "OneTrip") ∈ WN := List.mem_of_getElem? (i := 74) rfl
theorem wf_RX0_45 : (Cond.fieldLinkNest RX0 45 "OneTrip$Entry" "answer" "I" "OneTrip") ∈ WN := List.mem_of_getElem? (i := 75) rfl
theorem wf_RX5_228 : (Cond.fieldLinkNest RX5 228 "OneTrip$Entry" "answer" "I" "OneTrip") ∈ WN := List.mem_of_getElem? (i := 76) rfl
theorem wf_RX5_144 : (Cond.fieldLinkNest RX5 144 "OneTrip$Entry" "late" "Z" "OneTrip") ∈ WN := List.mem_of_getElem? (i := 77) rfl
theorem wf_RX5_163 : (Cond.fieldLinkNest RX5 163 "OneTrip$Entry" "wantedNow" "Z" "OneTrip") ∈ WN := List.mem_of_getElem? (i := 78) rfl
theorem wm_RX5_113 : (Cond.methodLinkNest RX5 113 yX6_valueAfter "OneTrip") ∈ WN := List.mem_of_getElem? (i := 79) rfl
theorem wm_RX5_160 : (Cond.methodLinkNest RX5 160 yX8_init "OneTrip") ∈ WN := List.mem_of_getElem? (i := 80) rfl
theorem wf_RX5_156 : (Cond.fieldLinkNest RX5 156 "OneTrip$WaitingGet" "op" "LOneTrip$Operation;" "OneTrip") ∈ WN := List.mem_of_getElem? (i := 81) rfl
theorem wf_RX5_225 : (Cond.fieldLinkNest RX5 225 "OneTrip$WaitingGet" "place" "I" "OneTrip") ∈ WN := List.mem_of_getElem? (i := 82) rfl
theorem wf_RX5_202 : (Cond.fieldLinkNest RX5 202 "OneTrip$WaitingGet" "valueThere" "I" "OneTrip") ∈ WN := List.mem_of_getElem? (i := 83) rfl
theorem wf_RX5_194 : (Cond.fieldLinkNest RX5 194 "OneTrip$WaitingGet" "syncs" "I" "OneTrip") ∈ WN := List.mem_of_getElem? (i := 84) rfl
theorem wf_RX5_195 : (Cond.fieldLinkNest RX5 195 "OneTrip$WaitingGet" "confirmed" "I" "OneTrip") ∈ WN := List.mem_of_getElem? (i := 85) rfl
theorem wm_RX10_299 : (Cond.methodLinkNest RX10 299 yX5_readSyncNow "OneTrip") ∈ WN := List.mem_of_getElem? (i := 86) rfl
theorem wm_RX10_302 : (Cond.methodLinkNest RX10 302 yX1_readSync "OneTrip") ∈ WN := List.mem_of_getElem? (i := 87) rfl
theorem wm_RX10_306 : (Cond.methodLinkNest RX10 306 yX4_toAck "OneTrip") ∈ WN := List.mem_of_getElem? (i := 88) rfl
theorem wm_RX10_310 : (Cond.methodLinkNest RX10 310 yX9_readReset "OneTrip") ∈ WN := List.mem_of_getElem? (i := 89) rfl
theorem wm_RX10_313 : (Cond.methodLinkNest RX10 313 yX9_drop "OneTrip") ∈ WN := List.mem_of_getElem? (i := 90) rfl
theorem wm_RX9_43 : (Cond.methodLinkNest RX9 43 yX5_placeOf "OneTrip") ∈ WN := List.mem_of_getElem? (i := 91) rfl
theorem wm_RX10_316 : (Cond.methodLinkNest RX10 316 yX9_readRecord "OneTrip") ∈ WN := List.mem_of_getElem? (i := 92) rfl
theorem wm_RX10_323 : (Cond.methodLinkNest RX10 323 yX4_toClient "OneTrip") ∈ WN := List.mem_of_getElem? (i := 93) rfl
theorem wm_RX10_144 : (Cond.methodLinkNest RX10 144 yX7_at "OneTrip") ∈ WN := List.mem_of_getElem? (i := 94) rfl
theorem wm_RX10_158 : (Cond.methodLinkNest RX10 158 yX5_sendSyncs "OneTrip") ∈ WN := List.mem_of_getElem? (i := 95) rfl
theorem wm_RX10_164 : (Cond.methodLinkNest RX10 164 yX5_sendResets "OneTrip") ∈ WN := List.mem_of_getElem? (i := 96) rfl
theorem wm_RX10_167 : (Cond.methodLinkNest RX10 167 yX5_fall "OneTrip") ∈ WN := List.mem_of_getElem? (i := 97) rfl
theorem wm_RX10_181 : (Cond.methodLinkNest RX10 181 yX5_takeLog "OneTrip") ∈ WN := List.mem_of_getElem? (i := 98) rfl
theorem wm_RX10_185 : (Cond.methodLinkNest RX10 185 yX5_takeRecords "OneTrip") ∈ WN := List.mem_of_getElem? (i := 99) rfl
theorem wm_RX5_76 : (Cond.methodLinkNest RX5 76 yX9_recordBehind "OneTrip") ∈ WN := List.mem_of_getElem? (i := 100) rfl
theorem wm_RX9_49 : (Cond.methodLinkNest RX9 49 yX6_comesBehind "OneTrip") ∈ WN := List.mem_of_getElem? (i := 101) rfl
theorem wm_RX10_208 : (Cond.methodLinkNest RX10 208 yX2_told "OneTrip") ∈ WN := List.mem_of_getElem? (i := 102) rfl
theorem wm_RX10_232 : (Cond.methodLinkNest RX10 232 yX5_valueOf "OneTrip") ∈ WN := List.mem_of_getElem? (i := 103) rfl
theorem wm_RX10_235 : (Cond.methodLinkNest RX10 235 yX9_held "OneTrip") ∈ WN := List.mem_of_getElem? (i := 104) rfl
theorem wm_RX10_238 : (Cond.methodLinkNest RX10 238 yX9_keysHeld "OneTrip") ∈ WN := List.mem_of_getElem? (i := 105) rfl
theorem WN_tab : ∀ w ∈ WN, w ∈ lw_tbl := by
  intro w h
  have e : WN = ([48, 80, 89, 93, 95, 97, 99, 101, 102, 121, 126, 128, 130, 131, 140, 148, 152, 154, 156, 174, 188, 190, 194, 195, 197, 200, 346, 355, 361, 365, 376, 387, 488, 492, 494, 498, 503, 504, 506, 507, 508, 509, 512, 513, 514, 516, 519, 520, 521, 522, 544, 548, 558, 560, 562, 564, 566, 568, 570, 586, 591, 592, 606, 621, 643, 668, 671, 676, 698, 714, 721, 739, 743, 748, 749, 751, 752, 754, 755, 766, 772, 777, 779, 781, 783, 784, 796, 821, 826, 833, 837, 841, 842, 846, 863, 875, 876, 884, 915, 919, 923, 927, 945, 963, 978, 982] : List Nat).filterMap (fun i => tables_1[i]?) := by decide +kernel
  rw [e] at h
  obtain ⟨i, -, hi⟩ := List.mem_filterMap.mp h
  exact List.mem_append_right _ (List.mem_of_getElem? hi)
