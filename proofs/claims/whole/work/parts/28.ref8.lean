set_option maxRecDepth 100000 in
set_option maxHeartbeats 4000000 in
theorem r_learn_b {l : Launch} {D : va_G} {tc : Nat → ClassId} {am : Nat} {ad : Nat → Nat} (hls : l.stackTraces = false) (A : TS) (A1 : TS) (x : Int32) (hA1 : A1 = sf A 0 0) (hx : noIx x 4 = true) : RM l D tc am ad yX11_learn cX11_learn 2 (some .int) 3 [.ref am, .int (x)] A (some (.int (nI 0))) (sf A1 0 1) := by
  refine RM.of hls (by decide +kernel) (by simp [Value.category]) (Nat.le_of_ble_eq_true rfl) (fun A0 p e9 s m args below meth c S0 sz Q h hr hA hQ => ?_)
  refine VR.eqL (ls' := [some (.ref am), some (.int (x))]) rfl ?_
  refine VR.blk h [(.aload_n 0, 1), (.iconst 0, 1)] (by decide +kernel) (pc' := 2) (ls' := [some (.ref am), some (.int (x))]) (st' := [.int (nI (0)), .ref am]) rfl rfl (Nat.le_of_ble_eq_true rfl) ?_
  refine VR.putI h (j := 0) rfl rfl rfl (Or.inl wf_RX11_1) (by decide +kernel) ?_
  refine VR.eqA (A' := A1) hA1 ?_
  refine VR.blk h [(.aload_n 0, 1), (.iload_n 1, 1)] (by decide +kernel) (pc' := 7) (ls' := [some (.ref am), some (.int (x))]) (st' := [.int (x), .ref am]) rfl rfl (Nat.le_of_ble_eq_true rfl) ?_
  refine VR.callS h (np := 1) (st := [.ref am]) (r_noClient_ hls A1 hx) wc_X11_noClient wn_RX11 (Or.inl wm_RX11_244) wt_X11_noClient (by decide +kernel) rfl (by decide) (by decide) (by simp [Value.category]) (by decide +kernel) rfl ?_
  refine VR.blk h [(.iconst 1, 1)] (by decide +kernel) (pc' := 11) (ls' := [some (.ref am), some (.int (x))]) (st' := [.int (nI (1)), .int (bI (true)), .ref am]) rfl rfl (Nat.le_of_ble_eq_true rfl) ?_
  refine VR.call h (np := 2) (st := []) (r_throwsT hls A1 1) wc_X11_throwsIf wn_RX11 (Or.inl wm_RX11_247) wi_X11_throwsIf we_X11_throwsIf (by decide +kernel) rfl (by decide) (by decide) (by simp [Value.category]) (by decide +kernel) rfl ?_
  refine VR.if_eq h (off := 5) (by decide +kernel) (tgt := 19) (by decide) (fun q => absurd q (by decide)) (fun _ => ?_)
  refine VR.blk h [(.iconst 0, 1)] (by decide +kernel) (pc' := 18) (ls' := [some (.ref am), some (.int (x))]) (st' := [.int (nI (0))]) rfl rfl (Nat.le_of_ble_eq_true rfl) ?_
  exact VR.iret h hA hQ hr rfl rfl rfl (by decide +kernel)

set_option maxRecDepth 100000 in
set_option maxHeartbeats 4000000 in
theorem r_retry_b {l : Launch} {D : va_G} {tc : Nat → ClassId} {am : Nat} {ad : Nat → Nat} (hls : l.stackTraces = false) (A : TS) (A1 : TS) (x : Int32) (hA1 : A1 = sf A 0 0) (hx : noIx x 4 = true) : RM l D tc am ad yX11_retry cX11_retry 2 (some .boolean) 3 [.ref am, .int (x)] A (some (.int (bI false))) (sf A1 0 1) := by
  refine RM.of hls (by decide +kernel) (by simp [Value.category]) (Nat.le_of_ble_eq_true rfl) (fun A0 p e9 s m args below meth c S0 sz Q h hr hA hQ => ?_)
  refine VR.eqL (ls' := [some (.ref am), some (.int (x))]) rfl ?_
  refine VR.blk h [(.aload_n 0, 1), (.iconst 0, 1)] (by decide +kernel) (pc' := 2) (ls' := [some (.ref am), some (.int (x))]) (st' := [.int (nI (0)), .ref am]) rfl rfl (Nat.le_of_ble_eq_true rfl) ?_
  refine VR.putI h (j := 0) rfl rfl rfl (Or.inl wf_RX11_1) (by decide +kernel) ?_
  refine VR.eqA (A' := A1) hA1 ?_
  refine VR.blk h [(.aload_n 0, 1), (.iload_n 1, 1)] (by decide +kernel) (pc' := 7) (ls' := [some (.ref am), some (.int (x))]) (st' := [.int (x), .ref am]) rfl rfl (Nat.le_of_ble_eq_true rfl) ?_
  refine VR.callS h (np := 1) (st := [.ref am]) (r_noClient_ hls A1 hx) wc_X11_noClient wn_RX11 (Or.inl wm_RX11_244) wt_X11_noClient (by decide +kernel) rfl (by decide) (by decide) (by simp [Value.category]) (by decide +kernel) rfl ?_
  refine VR.blk h [(.iconst 1, 1)] (by decide +kernel) (pc' := 11) (ls' := [some (.ref am), some (.int (x))]) (st' := [.int (nI (1)), .int (bI (true)), .ref am]) rfl rfl (Nat.le_of_ble_eq_true rfl) ?_
  refine VR.call h (np := 2) (st := []) (r_throwsT hls A1 1) wc_X11_throwsIf wn_RX11 (Or.inl wm_RX11_247) wi_X11_throwsIf we_X11_throwsIf (by decide +kernel) rfl (by decide) (by decide) (by simp [Value.category]) (by decide +kernel) rfl ?_
  refine VR.if_ne h (off := 11) (by decide +kernel) (tgt := 25) (by decide) (fun _ => ?_) (fun q => absurd q (by decide))
  refine VR.blk h [(.iconst 0, 1)] (by decide +kernel) (pc' := 26) (ls' := [some (.ref am), some (.int (x))]) (st' := [.int (nI (0))]) rfl rfl (Nat.le_of_ble_eq_true rfl) ?_
  refine VR.top (v' := .int (bI false)) (by rw [bI_f]) ?_
  exact VR.iret h hA hQ hr (bI_nar _) rfl rfl (by decide +kernel)

set_option maxRecDepth 100000 in
set_option maxHeartbeats 4000000 in
theorem r_lose_b {l : Launch} {D : va_G} {tc : Nat → ClassId} {am : Nat} {ad : Nat → Nat} (hls : l.stackTraces = false) (A : TS) (A1 : TS) (x : Int32) (hA1 : A1 = sf A 0 0) (hx : noIx x (tf A1 53) = true) : RM l D tc am ad yX11_lose cX11_lose 2 (some .int) 3 [.ref am, .int (x)] A (some (.int (nI 0))) (sf A1 0 1) := by
  refine RM.of hls (by decide +kernel) (by simp [Value.category]) (Nat.le_of_ble_eq_true rfl) (fun A0 p e9 s m args below meth c S0 sz Q h hr hA hQ => ?_)
  refine VR.eqL (ls' := [some (.ref am), some (.int (x))]) rfl ?_
  refine VR.blk h [(.aload_n 0, 1), (.iconst 0, 1)] (by decide +kernel) (pc' := 2) (ls' := [some (.ref am), some (.int (x))]) (st' := [.int (nI (0)), .ref am]) rfl rfl (Nat.le_of_ble_eq_true rfl) ?_
  refine VR.putI h (j := 0) rfl rfl rfl (Or.inl wf_RX11_1) (by decide +kernel) ?_
  refine VR.eqA (A' := A1) hA1 ?_
  refine VR.blk h [(.aload_n 0, 1), (.aload_n 0, 1), (.iload_n 1, 1)] (by decide +kernel) (pc' := 8) (ls' := [some (.ref am), some (.int (x))]) (st' := [.int (x), .ref am, .ref am]) rfl rfl (Nat.le_of_ble_eq_true rfl) ?_
  refine VR.call h (np := 1) (st := [.ref am]) (r_noLetter_ hls A1 hx) wc_X11_noLetter wn_RX11 (Or.inl wm_RX11_257) wi_X11_noLetter we_X11_noLetter (by decide +kernel) rfl (by decide) (by decide) (by simp [Value.category]) (by decide +kernel) rfl ?_
  refine VR.blk h [(.iconst 1, 1)] (by decide +kernel) (pc' := 12) (ls' := [some (.ref am), some (.int (x))]) (st' := [.int (nI (1)), .int (bI (true)), .ref am]) rfl rfl (Nat.le_of_ble_eq_true rfl) ?_
  refine VR.call h (np := 2) (st := []) (r_throwsT hls A1 1) wc_X11_throwsIf wn_RX11 (Or.inl wm_RX11_247) wi_X11_throwsIf we_X11_throwsIf (by decide +kernel) rfl (by decide) (by decide) (by simp [Value.category]) (by decide +kernel) rfl ?_
  refine VR.if_eq h (off := 5) (by decide +kernel) (tgt := 20) (by decide) (fun q => absurd q (by decide)) (fun _ => ?_)
  refine VR.blk h [(.iconst 0, 1)] (by decide +kernel) (pc' := 19) (ls' := [some (.ref am), some (.int (x))]) (st' := [.int (nI (0))]) rfl rfl (Nat.le_of_ble_eq_true rfl) ?_
  exact VR.iret h hA hQ hr rfl rfl rfl (by decide +kernel)

set_option maxRecDepth 100000 in
set_option maxHeartbeats 4000000 in
theorem r_twice_b {l : Launch} {D : va_G} {tc : Nat → ClassId} {am : Nat} {ad : Nat → Nat} (hls : l.stackTraces = false) (A : TS) (A1 : TS) (x : Int32) (hA1 : A1 = sf A 0 0) (hx : noIx x (tf A1 53) = true) : RM l D tc am ad yX11_twice cX11_twice 2 (some .int) 3 [.ref am, .int (x)] A (some (.int (nI 0))) (sf A1 0 1) := by
  refine RM.of hls (by decide +kernel) (by simp [Value.category]) (Nat.le_of_ble_eq_true rfl) (fun A0 p e9 s m args below meth c S0 sz Q h hr hA hQ => ?_)
  refine VR.eqL (ls' := [some (.ref am), some (.int (x))]) rfl ?_
  refine VR.blk h [(.aload_n 0, 1), (.iconst 0, 1)] (by decide +kernel) (pc' := 2) (ls' := [some (.ref am), some (.int (x))]) (st' := [.int (nI (0)), .ref am]) rfl rfl (Nat.le_of_ble_eq_true rfl) ?_
  refine VR.putI h (j := 0) rfl rfl rfl (Or.inl wf_RX11_1) (by decide +kernel) ?_
  refine VR.eqA (A' := A1) hA1 ?_
  refine VR.blk h [(.aload_n 0, 1), (.aload_n 0, 1), (.iload_n 1, 1)] (by decide +kernel) (pc' := 8) (ls' := [some (.ref am), some (.int (x))]) (st' := [.int (x), .ref am, .ref am]) rfl rfl (Nat.le_of_ble_eq_true rfl) ?_
  refine VR.call h (np := 1) (st := [.ref am]) (r_noLetter_ hls A1 hx) wc_X11_noLetter wn_RX11 (Or.inl wm_RX11_257) wi_X11_noLetter we_X11_noLetter (by decide +kernel) rfl (by decide) (by decide) (by simp [Value.category]) (by decide +kernel) rfl ?_
  refine VR.blk h [(.iconst 1, 1)] (by decide +kernel) (pc' := 12) (ls' := [some (.ref am), some (.int (x))]) (st' := [.int (nI (1)), .int (bI (true)), .ref am]) rfl rfl (Nat.le_of_ble_eq_true rfl) ?_
  refine VR.call h (np := 2) (st := []) (r_throwsT hls A1 1) wc_X11_throwsIf wn_RX11 (Or.inl wm_RX11_247) wi_X11_throwsIf we_X11_throwsIf (by decide +kernel) rfl (by decide) (by decide) (by simp [Value.category]) (by decide +kernel) rfl ?_
  refine VR.if_eq h (off := 5) (by decide +kernel) (tgt := 20) (by decide) (fun q => absurd q (by decide)) (fun _ => ?_)
  refine VR.blk h [(.iconst 0, 1)] (by decide +kernel) (pc' := 19) (ls' := [some (.ref am), some (.int (x))]) (st' := [.int (nI (0))]) rfl rfl (Nat.le_of_ble_eq_true rfl) ?_
  exact VR.iret h hA hQ hr rfl rfl rfl (by decide +kernel)

set_option maxRecDepth 100000 in
set_option maxHeartbeats 4000000 in
theorem r_sync_b {l : Launch} {D : va_G} {tc : Nat → ClassId} {am : Nat} {ad : Nat → Nat} (hls : l.stackTraces = false) (A : TS) (A1 : TS) (x : Int32) (hA1 : A1 = sf A 0 0) (hx : noIx x (tf A1 38) = true) : RM l D tc am ad yX11_sync cX11_sync 2 (some .boolean) 3 [.ref am, .int (x)] A (some (.int (bI false))) (sf A1 0 1) := by
  refine RM.of hls (by decide +kernel) (by simp [Value.category]) (Nat.le_of_ble_eq_true rfl) (fun A0 p e9 s m args below meth c S0 sz Q h hr hA hQ => ?_)
  refine VR.eqL (ls' := [some (.ref am), some (.int (x))]) rfl ?_
  refine VR.blk h [(.aload_n 0, 1), (.iconst 0, 1)] (by decide +kernel) (pc' := 2) (ls' := [some (.ref am), some (.int (x))]) (st' := [.int (nI (0)), .ref am]) rfl rfl (Nat.le_of_ble_eq_true rfl) ?_
  refine VR.putI h (j := 0) rfl rfl rfl (Or.inl wf_RX11_1) (by decide +kernel) ?_
  refine VR.eqA (A' := A1) hA1 ?_
  refine VR.blk h [(.aload_n 0, 1), (.aload_n 0, 1), (.iload_n 1, 1)] (by decide +kernel) (pc' := 8) (ls' := [some (.ref am), some (.int (x))]) (st' := [.int (x), .ref am, .ref am]) rfl rfl (Nat.le_of_ble_eq_true rfl) ?_
  refine VR.call h (np := 1) (st := [.ref am]) (r_noEpoch_ hls A1 hx) wc_X11_noEpoch wn_RX11 (Or.inl wm_RX11_289) wi_X11_noEpoch we_X11_noEpoch (by decide +kernel) rfl (by decide) (by decide) (by simp [Value.category]) (by decide +kernel) rfl ?_
  refine VR.blk h [(.iconst 1, 1)] (by decide +kernel) (pc' := 12) (ls' := [some (.ref am), some (.int (x))]) (st' := [.int (nI (1)), .int (bI (true)), .ref am]) rfl rfl (Nat.le_of_ble_eq_true rfl) ?_
  refine VR.call h (np := 2) (st := []) (r_throwsT hls A1 1) wc_X11_throwsIf wn_RX11 (Or.inl wm_RX11_247) wi_X11_throwsIf we_X11_throwsIf (by decide +kernel) rfl (by decide) (by decide) (by simp [Value.category]) (by decide +kernel) rfl ?_
  refine VR.if_ne h (off := 12) (by decide +kernel) (tgt := 27) (by decide) (fun _ => ?_) (fun q => absurd q (by decide))
  refine VR.blk h [(.iconst 0, 1)] (by decide +kernel) (pc' := 28) (ls' := [some (.ref am), some (.int (x))]) (st' := [.int (nI (0))]) rfl rfl (Nat.le_of_ble_eq_true rfl) ?_
  refine VR.top (v' := .int (bI false)) (by rw [bI_f]) ?_
  exact VR.iret h hA hQ hr (bI_nar _) rfl rfl (by decide +kernel)

set_option maxRecDepth 100000 in
set_option maxHeartbeats 4000000 in
theorem r_crash_b {l : Launch} {D : va_G} {tc : Nat → ClassId} {am : Nat} {ad : Nat → Nat} (hls : l.stackTraces = false) (A : TS) (A1 : TS) (x : Int32) (hA1 : A1 = sf A 0 0) (hx : noIx x (tf A1 38) = true) : RM l D tc am ad yX11_crash cX11_crash 3 (some .boolean) 3 [.ref am, .int (x)] A (some (.int (bI false))) (sf A1 0 1) := by
  refine RM.of hls (by decide +kernel) (by simp [Value.category]) (Nat.le_of_ble_eq_true rfl) (fun A0 p e9 s m args below meth c S0 sz Q h hr hA hQ => ?_)
  refine VR.eqL (ls' := [some (.ref am), some (.int (x)), none]) rfl ?_
  refine VR.blk h [(.aload_n 0, 1), (.iconst 0, 1)] (by decide +kernel) (pc' := 2) (ls' := [some (.ref am), some (.int (x)), none]) (st' := [.int (nI (0)), .ref am]) rfl rfl (Nat.le_of_ble_eq_true rfl) ?_
  refine VR.putI h (j := 0) rfl rfl rfl (Or.inl wf_RX11_1) (by decide +kernel) ?_
  refine VR.eqA (A' := A1) hA1 ?_
  refine VR.blk h [(.aload_n 0, 1), (.aload_n 0, 1), (.iload_n 1, 1)] (by decide +kernel) (pc' := 8) (ls' := [some (.ref am), some (.int (x)), none]) (st' := [.int (x), .ref am, .ref am]) rfl rfl (Nat.le_of_ble_eq_true rfl) ?_
  refine VR.call h (np := 1) (st := [.ref am]) (r_noEpoch_ hls A1 hx) wc_X11_noEpoch wn_RX11 (Or.inl wm_RX11_289) wi_X11_noEpoch we_X11_noEpoch (by decide +kernel) rfl (by decide) (by decide) (by simp [Value.category]) (by decide +kernel) rfl ?_
  refine VR.blk h [(.iconst 1, 1)] (by decide +kernel) (pc' := 12) (ls' := [some (.ref am), some (.int (x)), none]) (st' := [.int (nI (1)), .int (bI (true)), .ref am]) rfl rfl (Nat.le_of_ble_eq_true rfl) ?_
  refine VR.call h (np := 2) (st := []) (r_throwsT hls A1 1) wc_X11_throwsIf wn_RX11 (Or.inl wm_RX11_247) wi_X11_throwsIf we_X11_throwsIf (by decide +kernel) rfl (by decide) (by decide) (by simp [Value.category]) (by decide +kernel) rfl ?_
  refine VR.if_eq h (off := 5) (by decide +kernel) (tgt := 20) (by decide) (fun q => absurd q (by decide)) (fun _ => ?_)
  refine VR.blk h [(.iconst 0, 1)] (by decide +kernel) (pc' := 19) (ls' := [some (.ref am), some (.int (x)), none]) (st' := [.int (nI (0))]) rfl rfl (Nat.le_of_ble_eq_true rfl) ?_
  refine VR.top (v' := .int (bI false)) (by rw [bI_f]) ?_
  exact VR.iret h hA hQ hr (bI_nar _) rfl rfl (by decide +kernel)

set_option maxRecDepth 100000 in
set_option maxHeartbeats 4000000 in
theorem r_deliver_b {l : Launch} {D : va_G} {tc : Nat → ClassId} {am : Nat} {ad : Nat → Nat} (hls : l.stackTraces = false) (A : TS) (A1 : TS) (x : Int32) (hA1 : A1 = sf A 0 0) (hx : noIx x (tf A1 53) = true) : RM l D tc am ad yX11_deliver cX11_deliver 10 (some .int) 4 [.ref am, .int (x)] A (some (.int (nI 0))) (sf A1 0 1) := by
  refine RM.of hls (by decide +kernel) (by simp [Value.category]) (Nat.le_of_ble_eq_true rfl) (fun A0 p e9 s m args below meth c S0 sz Q h hr hA hQ => ?_)
  refine VR.eqL (ls' := [some (.ref am), some (.int (x)), none, none, none, none, none, none, none, none]) rfl ?_
  refine VR.blk h [(.aload_n 0, 1), (.iconst 0, 1)] (by decide +kernel) (pc' := 2) (ls' := [some (.ref am), some (.int (x)), none, none, none, none, none, none, none, none]) (st' := [.int (nI (0)), .ref am]) rfl rfl (Nat.le_of_ble_eq_true rfl) ?_
  refine VR.putI h (j := 0) rfl rfl rfl (Or.inl wf_RX11_1) (by decide +kernel) ?_
  refine VR.eqA (A' := A1) hA1 ?_
  refine VR.blk h [(.aload_n 0, 1), (.aload_n 0, 1), (.iload_n 1, 1)] (by decide +kernel) (pc' := 8) (ls' := [some (.ref am), some (.int (x)), none, none, none, none, none, none, none, none]) (st' := [.int (x), .ref am, .ref am]) rfl rfl (Nat.le_of_ble_eq_true rfl) ?_
  refine VR.call h (np := 1) (st := [.ref am]) (r_noLetter_ hls A1 hx) wc_X11_noLetter wn_RX11 (Or.inl wm_RX11_257) wi_X11_noLetter we_X11_noLetter (by decide +kernel) rfl (by decide) (by decide) (by simp [Value.category]) (by decide +kernel) rfl ?_
  refine VR.blk h [(.iconst 1, 1)] (by decide +kernel) (pc' := 12) (ls' := [some (.ref am), some (.int (x)), none, none, none, none, none, none, none, none]) (st' := [.int (nI (1)), .int (bI (true)), .ref am]) rfl rfl (Nat.le_of_ble_eq_true rfl) ?_
  refine VR.call h (np := 2) (st := []) (r_throwsT hls A1 1) wc_X11_throwsIf wn_RX11 (Or.inl wm_RX11_247) wi_X11_throwsIf we_X11_throwsIf (by decide +kernel) rfl (by decide) (by decide) (by simp [Value.category]) (by decide +kernel) rfl ?_
  refine VR.if_eq h (off := 5) (by decide +kernel) (tgt := 20) (by decide) (fun q => absurd q (by decide)) (fun _ => ?_)
  refine VR.blk h [(.iconst 0, 1)] (by decide +kernel) (pc' := 19) (ls' := [some (.ref am), some (.int (x)), none, none, none, none, none, none, none, none]) (st' := [.int (nI (0))]) rfl rfl (Nat.le_of_ble_eq_true rfl) ?_
  exact VR.iret h hA hQ hr rfl rfl rfl (by decide +kernel)

set_option maxRecDepth 100000 in
set_option maxHeartbeats 4000000 in
theorem r_letter_b {l : Launch} {D : va_G} {tc : Nat → ClassId} {am : Nat} {ad : Nat → Nat} (hls : l.stackTraces = false) (A : TS) (A1 : TS) (x : Int32) (y : Int32) (hA1 : A1 = sf A 0 0) (hx : noIx x (tf A1 53) = true) : RM l D tc am ad yX11_letter cX11_letter 3 (some .int) 3 [.ref am, .int (x), .int (y)] A (some (.int (nI 0))) (sf A1 0 1) := by
  refine RM.of hls (by decide +kernel) (by simp [Value.category]) (Nat.le_of_ble_eq_true rfl) (fun A0 p e9 s m args below meth c S0 sz Q h hr hA hQ => ?_)
  refine VR.eqL (ls' := [some (.ref am), some (.int (x)), some (.int (y))]) rfl ?_
  refine VR.blk h [(.aload_n 0, 1), (.iconst 0, 1)] (by decide +kernel) (pc' := 2) (ls' := [some (.ref am), some (.int (x)), some (.int (y))]) (st' := [.int (nI (0)), .ref am]) rfl rfl (Nat.le_of_ble_eq_true rfl) ?_
  refine VR.putI h (j := 0) rfl rfl rfl (Or.inl wf_RX11_1) (by decide +kernel) ?_
  refine VR.eqA (A' := A1) hA1 ?_
  refine VR.blk h [(.aload_n 0, 1), (.aload_n 0, 1), (.iload_n 1, 1)] (by decide +kernel) (pc' := 8) (ls' := [some (.ref am), some (.int (x)), some (.int (y))]) (st' := [.int (x), .ref am, .ref am]) rfl rfl (Nat.le_of_ble_eq_true rfl) ?_
  refine VR.call h (np := 1) (st := [.ref am]) (r_noLetter_ hls A1 hx) wc_X11_noLetter wn_RX11 (Or.inl wm_RX11_257) wi_X11_noLetter we_X11_noLetter (by decide +kernel) rfl (by decide) (by decide) (by simp [Value.category]) (by decide +kernel) rfl ?_
  refine VR.blk h [(.iconst 1, 1)] (by decide +kernel) (pc' := 12) (ls' := [some (.ref am), some (.int (x)), some (.int (y))]) (st' := [.int (nI (1)), .int (bI (true)), .ref am]) rfl rfl (Nat.le_of_ble_eq_true rfl) ?_
  refine VR.call h (np := 2) (st := []) (r_throwsT hls A1 1) wc_X11_throwsIf wn_RX11 (Or.inl wm_RX11_247) wi_X11_throwsIf we_X11_throwsIf (by decide +kernel) rfl (by decide) (by decide) (by simp [Value.category]) (by decide +kernel) rfl ?_
  refine VR.if_eq h (off := 5) (by decide +kernel) (tgt := 20) (by decide) (fun q => absurd q (by decide)) (fun _ => ?_)
  refine VR.blk h [(.iconst 0, 1)] (by decide +kernel) (pc' := 19) (ls' := [some (.ref am), some (.int (x)), some (.int (y))]) (st' := [.int (nI (0))]) rfl rfl (Nat.le_of_ble_eq_true rfl) ?_
  exact VR.iret h hA hQ hr rfl rfl rfl (by decide +kernel)

set_option maxRecDepth 100000 in
set_option maxHeartbeats 4000000 in
theorem r_master_b {l : Launch} {D : va_G} {tc : Nat → ClassId} {am : Nat} {ad : Nat → Nat} (hls : l.stackTraces = false) (A : TS) (A1 : TS) (x : Int32) (y : Int32) (hA1 : A1 = sf A 0 0) (hx : noIx x (tf A1 38) = true) : RM l D tc am ad yX11_master cX11_master 3 (some .int) 3 [.ref am, .int (x), .int (y)] A (some (.int (nI 0))) (sf A1 0 1) := by
  refine RM.of hls (by decide +kernel) (by simp [Value.category]) (Nat.le_of_ble_eq_true rfl) (fun A0 p e9 s m args below meth c S0 sz Q h hr hA hQ => ?_)
  refine VR.eqL (ls' := [some (.ref am), some (.int (x)), some (.int (y))]) rfl ?_
  refine VR.blk h [(.aload_n 0, 1), (.iconst 0, 1)] (by decide +kernel) (pc' := 2) (ls' := [some (.ref am), some (.int (x)), some (.int (y))]) (st' := [.int (nI (0)), .ref am]) rfl rfl (Nat.le_of_ble_eq_true rfl) ?_
  refine VR.putI h (j := 0) rfl rfl rfl (Or.inl wf_RX11_1) (by decide +kernel) ?_
  refine VR.eqA (A' := A1) hA1 ?_
  refine VR.blk h [(.aload_n 0, 1), (.aload_n 0, 1), (.iload_n 1, 1)] (by decide +kernel) (pc' := 8) (ls' := [some (.ref am), some (.int (x)), some (.int (y))]) (st' := [.int (x), .ref am, .ref am]) rfl rfl (Nat.le_of_ble_eq_true rfl) ?_
  refine VR.call h (np := 1) (st := [.ref am]) (r_noEpoch_ hls A1 hx) wc_X11_noEpoch wn_RX11 (Or.inl wm_RX11_289) wi_X11_noEpoch we_X11_noEpoch (by decide +kernel) rfl (by decide) (by decide) (by simp [Value.category]) (by decide +kernel) rfl ?_
  refine VR.blk h [(.iconst 1, 1)] (by decide +kernel) (pc' := 12) (ls' := [some (.ref am), some (.int (x)), some (.int (y))]) (st' := [.int (nI (1)), .int (bI (true)), .ref am]) rfl rfl (Nat.le_of_ble_eq_true rfl) ?_
  refine VR.call h (np := 2) (st := []) (r_throwsT hls A1 1) wc_X11_throwsIf wn_RX11 (Or.inl wm_RX11_247) wi_X11_throwsIf we_X11_throwsIf (by decide +kernel) rfl (by decide) (by decide) (by simp [Value.category]) (by decide +kernel) rfl ?_
  refine VR.if_eq h (off := 5) (by decide +kernel) (tgt := 20) (by decide) (fun q => absurd q (by decide)) (fun _ => ?_)
  refine VR.blk h [(.iconst 0, 1)] (by decide +kernel) (pc' := 19) (ls' := [some (.ref am), some (.int (x)), some (.int (y))]) (st' := [.int (nI (0))]) rfl rfl (Nat.le_of_ble_eq_true rfl) ?_
  exact VR.iret h hA hQ hr rfl rfl rfl (by decide +kernel)

set_option maxRecDepth 100000 in
set_option maxHeartbeats 4000000 in
theorem r_client_b {l : Launch} {D : va_G} {tc : Nat → ClassId} {am : Nat} {ad : Nat → Nat} (hls : l.stackTraces = false) (A : TS) (A1 : TS) (x : Int32) (y : Int32) (hA1 : A1 = sf A 0 0) (hx : noIx x 4 = true) : RM l D tc am ad yX11_client cX11_client 4 (some .int) 3 [.ref am, .int (x), .int (y)] A (some (.int (nI 0))) (sf A1 0 1) := by
  refine RM.of hls (by decide +kernel) (by simp [Value.category]) (Nat.le_of_ble_eq_true rfl) (fun A0 p e9 s m args below meth c S0 sz Q h hr hA hQ => ?_)
  refine VR.eqL (ls' := [some (.ref am), some (.int (x)), some (.int (y)), none]) rfl ?_
  refine VR.blk h [(.aload_n 0, 1), (.iconst 0, 1)] (by decide +kernel) (pc' := 2) (ls' := [some (.ref am), some (.int (x)), some (.int (y)), none]) (st' := [.int (nI (0)), .ref am]) rfl rfl (Nat.le_of_ble_eq_true rfl) ?_
  refine VR.putI h (j := 0) rfl rfl rfl (Or.inl wf_RX11_1) (by decide +kernel) ?_
  refine VR.eqA (A' := A1) hA1 ?_
  refine VR.blk h [(.aload_n 0, 1), (.iload_n 1, 1)] (by decide +kernel) (pc' := 7) (ls' := [some (.ref am), some (.int (x)), some (.int (y)), none]) (st' := [.int (x), .ref am]) rfl rfl (Nat.le_of_ble_eq_true rfl) ?_
  refine VR.callS h (np := 1) (st := [.ref am]) (r_noClient_ hls A1 hx) wc_X11_noClient wn_RX11 (Or.inl wm_RX11_244) wt_X11_noClient (by decide +kernel) rfl (by decide) (by decide) (by simp [Value.category]) (by decide +kernel) rfl ?_
  refine VR.blk h [(.iconst 1, 1)] (by decide +kernel) (pc' := 11) (ls' := [some (.ref am), some (.int (x)), some (.int (y)), none]) (st' := [.int (nI (1)), .int (bI (true)), .ref am]) rfl rfl (Nat.le_of_ble_eq_true rfl) ?_
  refine VR.call h (np := 2) (st := []) (r_throwsT hls A1 1) wc_X11_throwsIf wn_RX11 (Or.inl wm_RX11_247) wi_X11_throwsIf we_X11_throwsIf (by decide +kernel) rfl (by decide) (by decide) (by simp [Value.category]) (by decide +kernel) rfl ?_
  refine VR.if_eq h (off := 5) (by decide +kernel) (tgt := 19) (by decide) (fun q => absurd q (by decide)) (fun _ => ?_)
  refine VR.blk h [(.iconst 0, 1)] (by decide +kernel) (pc' := 18) (ls' := [some (.ref am), some (.int (x)), some (.int (y)), none]) (st' := [.int (nI (0))]) rfl rfl (Nat.le_of_ble_eq_true rfl) ?_
  exact VR.iret h hA hQ hr rfl rfl rfl (by decide +kernel)

set_option maxRecDepth 100000 in
set_option maxHeartbeats 4000000 in
theorem r_lose {l : Launch} {D : va_G} {tc : Nat → ClassId} {am : Nat} {ad : Nat → Nat} (hls : l.stackTraces = false) (A : TS) (A1 : TS) (k9 K : Nat) (hA1 : A1 = sf A 0 0) (hk : k9 < tf A1 53) (hl : tf A1 53 ≤ 250) (hB : NB K A1) (hK : K < 1999980000) : RM l D tc am ad yX11_lose cX11_lose 2 (some .int) 3 [.ref am, .int (nI (k9))] A (some (.int (nI (tf (tkF A1 k9) 53)))) (tkF A1 k9) := by
  refine RM.of hls (by decide +kernel) (by simp [Value.category]) (Nat.le_of_ble_eq_true rfl) (fun A0 p e9 s m args below meth c S0 sz Q h hr hA hQ => ?_)
  refine VR.eqL (ls' := [some (.ref am), some (.int (nI (k9)))]) rfl ?_
  refine VR.blk h [(.aload_n 0, 1), (.iconst 0, 1)] (by decide +kernel) (pc' := 2) (ls' := [some (.ref am), some (.int (nI (k9)))]) (st' := [.int (nI (0)), .ref am]) rfl rfl (Nat.le_of_ble_eq_true rfl) ?_
  refine VR.putI h (j := 0) rfl rfl rfl (Or.inl wf_RX11_1) (by decide +kernel) ?_
  refine VR.eqA (A' := A1) hA1 ?_
  refine VR.blk h [(.aload_n 0, 1), (.aload_n 0, 1), (.iload_n 1, 1)] (by decide +kernel) (pc' := 8) (ls' := [some (.ref am), some (.int (nI (k9)))]) (st' := [.int (nI (k9)), .ref am, .ref am]) rfl rfl (Nat.le_of_ble_eq_true rfl) ?_
  refine VR.call h (np := 1) (st := [.ref am]) (r_noLetter_ hls A1 (noIx_nI (by omega) (by omega))) wc_X11_noLetter wn_RX11 (Or.inl wm_RX11_257) wi_X11_noLetter we_X11_noLetter (by decide +kernel) rfl (by decide) (by decide) (by simp [Value.category]) (by decide +kernel) rfl ?_
  refine VR.blk h [(.iconst 1, 1)] (by decide +kernel) (pc' := 12) (ls' := [some (.ref am), some (.int (nI (k9)))]) (st' := [.int (nI (1)), .int (bI (false)), .ref am]) rfl rfl (Nat.le_of_ble_eq_true rfl) ?_
  refine VR.call h (np := 2) (st := []) (r_throwsN hls A1 1) wc_X11_throwsIf wn_RX11 (Or.inl wm_RX11_247) wi_X11_throwsIf we_X11_throwsIf (by decide +kernel) rfl (by decide) (by decide) (by simp [Value.category]) (by decide +kernel) rfl ?_
  refine VR.if_eq h (off := 5) (by decide +kernel) (tgt := 20) (by decide) (fun _ => ?_) (fun q => absurd (by decide) q)
  refine VR.blk h [(.aload_n 0, 1), (.iload_n 1, 1)] (by decide +kernel) (pc' := 22) (ls' := [some (.ref am), some (.int (nI (k9)))]) (st' := [.int (nI (k9)), .ref am]) rfl rfl (Nat.le_of_ble_eq_true rfl) ?_
  refine VR.call h (np := 1) (st := []) (r_takes hls A1 k9 K hk hl hB (by omega)) wc_X11_takes wn_RX11 (Or.inl wm_RX11_260) wi_X11_takes we_X11_takes (by decide +kernel) rfl (by decide) (by decide) (by simp [Value.category]) (by decide +kernel) rfl ?_
  refine VR.blk h [(.aload_n 0, 1)] (by decide +kernel) (pc' := 26) (ls' := [some (.ref am), some (.int (nI (k9)))]) (st' := [.ref am]) rfl rfl (Nat.le_of_ble_eq_true rfl) ?_
  refine VR.getI h (j := 53) rfl (Or.inl wf_RX11_170) (by decide +kernel) (v := tf (tkF A1 k9) 53) rfl ?_
  exact VR.iret h hA hQ hr rfl rfl rfl (by decide +kernel)

set_option maxRecDepth 100000 in
set_option maxHeartbeats 4000000 in
theorem r_twice {l : Launch} {D : va_G} {tc : Nat → ClassId} {am : Nat} {ad : Nat → Nat} (hls : l.stackTraces = false) (A : TS) (A1 : TS) (k9 K : Nat) (hA1 : A1 = sf A 0 0) (hk : k9 < tf A1 53) (hl : tf A1 53 ≤ 250) (hB : NB K A1) (hK : K < 1999980000) : RM l D tc am ad yX11_twice cX11_twice 2 (some .int) 3 [.ref am, .int (nI (k9))] A (some (.int (nI (tf (twiF A1 k9) 53)))) (twiF A1 k9) := by
  refine RM.of hls (by decide +kernel) (by simp [Value.category]) (Nat.le_of_ble_eq_true rfl) (fun A0 p e9 s m args below meth c S0 sz Q h hr hA hQ => ?_)
  refine VR.eqL (ls' := [some (.ref am), some (.int (nI (k9)))]) rfl ?_
  refine VR.blk h [(.aload_n 0, 1), (.iconst 0, 1)] (by decide +kernel) (pc' := 2) (ls' := [some (.ref am), some (.int (nI (k9)))]) (st' := [.int (nI (0)), .ref am]) rfl rfl (Nat.le_of_ble_eq_true rfl) ?_
  refine VR.putI h (j := 0) rfl rfl rfl (Or.inl wf_RX11_1) (by decide +kernel) ?_
  refine VR.eqA (A' := A1) hA1 ?_
  refine VR.blk h [(.aload_n 0, 1), (.aload_n 0, 1), (.iload_n 1, 1)] (by decide +kernel) (pc' := 8) (ls' := [some (.ref am), some (.int (nI (k9)))]) (st' := [.int (nI (k9)), .ref am, .ref am]) rfl rfl (Nat.le_of_ble_eq_true rfl) ?_
  refine VR.call h (np := 1) (st := [.ref am]) (r_noLetter_ hls A1 (noIx_nI (by omega) (by omega))) wc_X11_noLetter wn_RX11 (Or.inl wm_RX11_257) wi_X11_noLetter we_X11_noLetter (by decide +kernel) rfl (by decide) (by decide) (by simp [Value.category]) (by decide +kernel) rfl ?_
  refine VR.blk h [(.iconst 1, 1)] (by decide +kernel) (pc' := 12) (ls' := [some (.ref am), some (.int (nI (k9)))]) (st' := [.int (nI (1)), .int (bI (false)), .ref am]) rfl rfl (Nat.le_of_ble_eq_true rfl) ?_
  refine VR.call h (np := 2) (st := []) (r_throwsN hls A1 1) wc_X11_throwsIf wn_RX11 (Or.inl wm_RX11_247) wi_X11_throwsIf we_X11_throwsIf (by decide +kernel) rfl (by decide) (by decide) (by simp [Value.category]) (by decide +kernel) rfl ?_
  refine VR.if_eq h (off := 5) (by decide +kernel) (tgt := 20) (by decide) (fun _ => ?_) (fun q => absurd (by decide) q)
  refine VR.blk h [(.aload_n 0, 1), (.aload_n 0, 1)] (by decide +kernel) (pc' := 22) (ls' := [some (.ref am), some (.int (nI (k9)))]) (st' := [.ref am, .ref am]) rfl rfl (Nat.le_of_ble_eq_true rfl) ?_
  refine VR.getA h (j := 45) rfl (Or.inl wf_RX11_123) (by decide +kernel) ?_
  refine VR.blk h [(.iload_n 1, 1)] (by decide +kernel) (pc' := 26) (ls' := [some (.ref am), some (.int (nI (k9)))]) (st' := [.int (nI (k9)), .ref (ad 45), .ref am]) rfl rfl (Nat.le_of_ble_eq_true rfl) ?_
  refine VR.iald h (j := 45) (i := k9) rfl rfl (by show _ < 250; omega) (by decide +kernel) (v := (nI (tn A1 45 k9))) (mval_1 rfl) ?_
  have nb13 := hB.2 45 k9
  refine VR.blk h [(.aload_n 0, 1)] (by decide +kernel) (pc' := 28) (ls' := [some (.ref am), some (.int (nI (k9)))]) (st' := [.ref am, .int (nI (tn A1 45 k9)), .ref am]) rfl rfl (Nat.le_of_ble_eq_true rfl) ?_
  refine VR.getA h (j := 46) rfl (Or.inl wf_RX11_126) (by decide +kernel) ?_
  refine VR.blk h [(.iload_n 1, 1)] (by decide +kernel) (pc' := 32) (ls' := [some (.ref am), some (.int (nI (k9)))]) (st' := [.int (nI (k9)), .ref (ad 46), .int (nI (tn A1 45 k9)), .ref am]) rfl rfl (Nat.le_of_ble_eq_true rfl) ?_
  refine VR.iald h (j := 46) (i := k9) rfl rfl (by show _ < 250; omega) (by decide +kernel) (v := (nI (tn A1 46 k9))) (mval_1 rfl) ?_
  have nb18 := hB.2 46 k9
  refine VR.blk h [(.aload_n 0, 1)] (by decide +kernel) (pc' := 34) (ls' := [some (.ref am), some (.int (nI (k9)))]) (st' := [.ref am, .int (nI (tn A1 46 k9)), .int (nI (tn A1 45 k9)), .ref am]) rfl rfl (Nat.le_of_ble_eq_true rfl) ?_
  refine VR.getA h (j := 47) rfl (Or.inl wf_RX11_129) (by decide +kernel) ?_
  refine VR.blk h [(.iload_n 1, 1)] (by decide +kernel) (pc' := 38) (ls' := [some (.ref am), some (.int (nI (k9)))]) (st' := [.int (nI (k9)), .ref (ad 47), .int (nI (tn A1 46 k9)), .int (nI (tn A1 45 k9)), .ref am]) rfl rfl (Nat.le_of_ble_eq_true rfl) ?_
  refine VR.iald h (j := 47) (i := k9) rfl rfl (by show _ < 250; omega) (by decide +kernel) (v := (nI (tn A1 47 k9))) (mval_1 rfl) ?_
  have nb23 := hB.2 47 k9
  refine VR.blk h [(.aload_n 0, 1)] (by decide +kernel) (pc' := 40) (ls' := [some (.ref am), some (.int (nI (k9)))]) (st' := [.ref am, .int (nI (tn A1 47 k9)), .int (nI (tn A1 46 k9)), .int (nI (tn A1 45 k9)), .ref am]) rfl rfl (Nat.le_of_ble_eq_true rfl) ?_
  refine VR.getA h (j := 48) rfl (Or.inl wf_RX11_132) (by decide +kernel) ?_
  refine VR.blk h [(.iload_n 1, 1)] (by decide +kernel) (pc' := 44) (ls' := [some (.ref am), some (.int (nI (k9)))]) (st' := [.int (nI (k9)), .ref (ad 48), .int (nI (tn A1 47 k9)), .int (nI (tn A1 46 k9)), .int (nI (tn A1 45 k9)), .ref am]) rfl rfl (Nat.le_of_ble_eq_true rfl) ?_
  refine VR.iald h (j := 48) (i := k9) rfl rfl (by show _ < 250; omega) (by decide +kernel) (v := (oI (tn A1 48 k9))) (mval_2 rfl) ?_
  have nb28 := hB.2 48 k9
  refine VR.blk h [(.aload_n 0, 1)] (by decide +kernel) (pc' := 46) (ls' := [some (.ref am), some (.int (nI (k9)))]) (st' := [.ref am, .int (oI (tn A1 48 k9)), .int (nI (tn A1 47 k9)), .int (nI (tn A1 46 k9)), .int (nI (tn A1 45 k9)), .ref am]) rfl rfl (Nat.le_of_ble_eq_true rfl) ?_
  refine VR.getA h (j := 49) rfl (Or.inl wf_RX11_135) (by decide +kernel) ?_
  refine VR.blk h [(.iload_n 1, 1)] (by decide +kernel) (pc' := 50) (ls' := [some (.ref am), some (.int (nI (k9)))]) (st' := [.int (nI (k9)), .ref (ad 49), .int (oI (tn A1 48 k9)), .int (nI (tn A1 47 k9)), .int (nI (tn A1 46 k9)), .int (nI (tn A1 45 k9)), .ref am]) rfl rfl (Nat.le_of_ble_eq_true rfl) ?_
  refine VR.iald h (j := 49) (i := k9) rfl rfl (by show _ < 250; omega) (by decide +kernel) (v := (nI (tn A1 49 k9))) (mval_1 rfl) ?_
  have nb33 := hB.2 49 k9
  refine VR.blk h [(.aload_n 0, 1)] (by decide +kernel) (pc' := 52) (ls' := [some (.ref am), some (.int (nI (k9)))]) (st' := [.ref am, .int (nI (tn A1 49 k9)), .int (oI (tn A1 48 k9)), .int (nI (tn A1 47 k9)), .int (nI (tn A1 46 k9)), .int (nI (tn A1 45 k9)), .ref am]) rfl rfl (Nat.le_of_ble_eq_true rfl) ?_
  refine VR.getA h (j := 50) rfl (Or.inl wf_RX11_138) (by decide +kernel) ?_
  refine VR.blk h [(.iload_n 1, 1)] (by decide +kernel) (pc' := 56) (ls' := [some (.ref am), some (.int (nI (k9)))]) (st' := [.int (nI (k9)), .ref (ad 50), .int (nI (tn A1 49 k9)), .int (oI (tn A1 48 k9)), .int (nI (tn A1 47 k9)), .int (nI (tn A1 46 k9)), .int (nI (tn A1 45 k9)), .ref am]) rfl rfl (Nat.le_of_ble_eq_true rfl) ?_
  refine VR.iald h (j := 50) (i := k9) rfl rfl (by show _ < 250; omega) (by decide +kernel) (v := (nI (tn A1 50 k9))) (mval_1 rfl) ?_
  have nb38 := hB.2 50 k9
  refine VR.blk h [(.aload_n 0, 1)] (by decide +kernel) (pc' := 58) (ls' := [some (.ref am), some (.int (nI (k9)))]) (st' := [.ref am, .int (nI (tn A1 50 k9)), .int (nI (tn A1 49 k9)), .int (oI (tn A1 48 k9)), .int (nI (tn A1 47 k9)), .int (nI (tn A1 46 k9)), .int (nI (tn A1 45 k9)), .ref am]) rfl rfl (Nat.le_of_ble_eq_true rfl) ?_
  refine VR.getA h (j := 51) rfl (Or.inl wf_RX11_141) (by decide +kernel) ?_
  refine VR.blk h [(.iload_n 1, 1)] (by decide +kernel) (pc' := 62) (ls' := [some (.ref am), some (.int (nI (k9)))]) (st' := [.int (nI (k9)), .ref (ad 51), .int (nI (tn A1 50 k9)), .int (nI (tn A1 49 k9)), .int (oI (tn A1 48 k9)), .int (nI (tn A1 47 k9)), .int (nI (tn A1 46 k9)), .int (nI (tn A1 45 k9)), .ref am]) rfl rfl (Nat.le_of_ble_eq_true rfl) ?_
  refine VR.iald h (j := 51) (i := k9) rfl rfl (by show _ < 250; omega) (by decide +kernel) (v := (tr A1 51 k9)) (mval_3 rfl) ?_
  refine VR.blk h [(.aload_n 0, 1)] (by decide +kernel) (pc' := 64) (ls' := [some (.ref am), some (.int (nI (k9)))]) (st' := [.ref am, .int (tr A1 51 k9), .int (nI (tn A1 50 k9)), .int (nI (tn A1 49 k9)), .int (oI (tn A1 48 k9)), .int (nI (tn A1 47 k9)), .int (nI (tn A1 46 k9)), .int (nI (tn A1 45 k9)), .ref am]) rfl rfl (Nat.le_of_ble_eq_true rfl) ?_
  refine VR.getA h (j := 52) rfl (Or.inl wf_RX11_144) (by decide +kernel) ?_
  refine VR.blk h [(.iload_n 1, 1)] (by decide +kernel) (pc' := 68) (ls' := [some (.ref am), some (.int (nI (k9)))]) (st' := [.int (nI (k9)), .ref (ad 52), .int (tr A1 51 k9), .int (nI (tn A1 50 k9)), .int (nI (tn A1 49 k9)), .int (oI (tn A1 48 k9)), .int (nI (tn A1 47 k9)), .int (nI (tn A1 46 k9)), .int (nI (tn A1 45 k9)), .ref am]) rfl rfl (Nat.le_of_ble_eq_true rfl) ?_
  refine VR.bald h (j := 52) (i := k9) rfl rfl (by show _ < 250; omega) (by decide +kernel) (v := (bI (tb A1 52 k9))) (mval_4 rfl) ?_
  refine VR.call h (np := 8) (st := []) (r_send hls A1 (tn A1 45 k9) (tn A1 46 k9) (tn A1 47 k9) (tn A1 48 k9) (tn A1 49 k9) (tn A1 50 k9) (tr A1 51 k9) (tb A1 52 k9) K (by omega) (by omega) (by omega) (by omega) (by omega) (by omega) hl hB (by omega)) wc_X11_send wn_RX11 (Or.inl wm_RX11_176) wi_X11_send we_X11_send (by decide +kernel) rfl (by decide) (by decide) (by simp [Value.category]) (by decide +kernel) (by simp [oI_s, bI_f, bI_t]) ?_
  refine VR.blk h [(.aload_n 0, 1)] (by decide +kernel) (pc' := 73) (ls' := [some (.ref am), some (.int (nI (k9)))]) (st' := [.ref am]) rfl rfl (Nat.le_of_ble_eq_true rfl) ?_
  refine VR.getI h (j := 53) rfl (Or.inl wf_RX11_170) (by decide +kernel) (v := tf (twiF A1 k9) 53) rfl ?_
  exact VR.iret h hA hQ hr rfl rfl rfl (by decide +kernel)

set_option maxRecDepth 100000 in
set_option maxHeartbeats 4000000 in
theorem r_crash {l : Launch} {D : va_G} {tc : Nat → ClassId} {am : Nat} {ad : Nat → Nat} (hls : l.stackTraces = false) (A : TS) (A1 : TS) (e K : Nat) (hA1 : A1 = sf A 0 0) (he : e < tf A1 38) (he2 : tf A1 38 ≤ 12) (hB : NB K A1) (hK : K < 1999980000) : RM l D tc am ad yX11_crash cX11_crash 3 (some .boolean) 3 [.ref am, .int (nI (e))] A (some (.int (bI (tb A1 30 e)))) (craF A1 e) := by
  refine RM.of hls (by decide +kernel) (by simp [Value.category]) (Nat.le_of_ble_eq_true rfl) (fun A0 p e9 s m args below meth c S0 sz Q h hr hA hQ => ?_)
  refine VR.eqL (ls' := [some (.ref am), some (.int (nI (e))), none]) rfl ?_
  refine VR.blk h [(.aload_n 0, 1), (.iconst 0, 1)] (by decide +kernel) (pc' := 2) (ls' := [some (.ref am), some (.int (nI (e))), none]) (st' := [.int (nI (0)), .ref am]) rfl rfl (Nat.le_of_ble_eq_true rfl) ?_
  refine VR.putI h (j := 0) rfl rfl rfl (Or.inl wf_RX11_1) (by decide +kernel) ?_
  refine VR.eqA (A' := A1) hA1 ?_
  refine VR.blk h [(.aload_n 0, 1), (.aload_n 0, 1), (.iload_n 1, 1)] (by decide +kernel) (pc' := 8) (ls' := [some (.ref am), some (.int (nI (e))), none]) (st' := [.int (nI (e)), .ref am, .ref am]) rfl rfl (Nat.le_of_ble_eq_true rfl) ?_
  refine VR.call h (np := 1) (st := [.ref am]) (r_noEpoch_ hls A1 (noIx_nI (by omega) (by omega))) wc_X11_noEpoch wn_RX11 (Or.inl wm_RX11_289) wi_X11_noEpoch we_X11_noEpoch (by decide +kernel) rfl (by decide) (by decide) (by simp [Value.category]) (by decide +kernel) rfl ?_
  refine VR.blk h [(.iconst 1, 1)] (by decide +kernel) (pc' := 12) (ls' := [some (.ref am), some (.int (nI (e))), none]) (st' := [.int (nI (1)), .int (bI (false)), .ref am]) rfl rfl (Nat.le_of_ble_eq_true rfl) ?_
  refine VR.call h (np := 2) (st := []) (r_throwsN hls A1 1) wc_X11_throwsIf wn_RX11 (Or.inl wm_RX11_247) wi_X11_throwsIf we_X11_throwsIf (by decide +kernel) rfl (by decide) (by decide) (by simp [Value.category]) (by decide +kernel) rfl ?_
  refine VR.if_eq h (off := 5) (by decide +kernel) (tgt := 20) (by decide) (fun _ => ?_) (fun q => absurd (by decide) q)
  refine VR.blk h [(.aload_n 0, 1)] (by decide +kernel) (pc' := 21) (ls' := [some (.ref am), some (.int (nI (e))), none]) (st' := [.ref am]) rfl rfl (Nat.le_of_ble_eq_true rfl) ?_
  refine VR.getA h (j := 30) rfl (Or.inl wf_RX11_81) (by decide +kernel) ?_
  refine VR.blk h [(.iload_n 1, 1)] (by decide +kernel) (pc' := 25) (ls' := [some (.ref am), some (.int (nI (e))), none]) (st' := [.int (nI (e)), .ref (ad 30)]) rfl rfl (Nat.le_of_ble_eq_true rfl) ?_
  refine VR.bald h (j := 30) (i := e) rfl rfl (by show _ < 12; omega) (by decide +kernel) (v := (bI (tb A1 30 e))) (mval_4 rfl) ?_
  refine VR.blk h [(.istore_n 2, 1), (.aload_n 0, 1)] (by decide +kernel) (pc' := 28) (ls' := [some (.ref am), some (.int (nI (e))), some (.int (bI (tb A1 30 e)))]) (st' := [.ref am]) rfl rfl (Nat.le_of_ble_eq_true rfl) ?_
  refine VR.getA h (j := 30) rfl (Or.inl wf_RX11_81) (by decide +kernel) ?_
  refine VR.blk h [(.iload_n 1, 1), (.iconst 0, 1)] (by decide +kernel) (pc' := 33) (ls' := [some (.ref am), some (.int (nI (e))), some (.int (bI (tb A1 30 e)))]) (st' := [.int (nI (0)), .int (nI (e)), .ref (ad 30)]) rfl rfl (Nat.le_of_ble_eq_true rfl) ?_
  refine VR.bast h (j := 30) (i := e) (v := false) rfl rfl (by show _ < 12; omega) (by decide +kernel) ?_
  refine VR.blk h [(.aload_n 0, 1)] (by decide +kernel) (pc' := 35) (ls' := [some (.ref am), some (.int (nI (e))), some (.int (bI (tb A1 30 e)))]) (st' := [.ref am]) rfl rfl (Nat.le_of_ble_eq_true rfl) ?_
  refine VR.getA h (j := 37) rfl (Or.inl wf_RX11_102) (by decide +kernel) ?_
  refine VR.blk h [(.iload_n 1, 1), (.iconst 0, 1)] (by decide +kernel) (pc' := 40) (ls' := [some (.ref am), some (.int (nI (e))), some (.int (bI (tb A1 30 e)))]) (st' := [.int (nI (0)), .int (nI (e)), .ref (ad 37)]) rfl rfl (Nat.le_of_ble_eq_true rfl) ?_
  refine VR.iastN h (j := 37) (i := e) rfl rfl (by show _ < 12; omega) (by decide +kernel) ?_
  refine VR.blk h [(.iload_n 2, 1)] (by decide +kernel) (pc' := 42) (ls' := [some (.ref am), some (.int (nI (e))), some (.int (bI (tb A1 30 e)))]) (st' := [.int (bI (tb A1 30 e))]) rfl rfl (Nat.le_of_ble_eq_true rfl) ?_
  exact VR.iret h hA hQ hr (bI_nar _) rfl rfl (by decide +kernel)

set_option maxRecDepth 100000 in
set_option maxHeartbeats 4000000 in
theorem r_sync_d {l : Launch} {D : va_G} {tc : Nat → ClassId} {am : Nat} {ad : Nat → Nat} (hls : l.stackTraces = false) (A : TS) (A1 : TS) (e K : Nat) (hA1 : A1 = sf A 0 0) (he : e < tf A1 38) (he2 : tf A1 38 ≤ 12) (hB : NB K A1) (hK : K < 1999980000) (hv : tb A1 30 e = false) : RM l D tc am ad yX11_sync cX11_sync 2 (some .boolean) 3 [.ref am, .int (nI (e))] A (some (.int (bI false))) (A1) := by
  refine RM.of hls (by decide +kernel) (by simp [Value.category]) (Nat.le_of_ble_eq_true rfl) (fun A0 p e9 s m args below meth c S0 sz Q h hr hA hQ => ?_)
  refine VR.eqL (ls' := [some (.ref am), some (.int (nI (e)))]) rfl ?_
  refine VR.blk h [(.aload_n 0, 1), (.iconst 0, 1)] (by decide +kernel) (pc' := 2) (ls' := [some (.ref am), some (.int (nI (e)))]) (st' := [.int (nI (0)), .ref am]) rfl rfl (Nat.le_of_ble_eq_true rfl) ?_
  refine VR.putI h (j := 0) rfl rfl rfl (Or.inl wf_RX11_1) (by decide +kernel) ?_
  refine VR.eqA (A' := A1) hA1 ?_
  refine VR.blk h [(.aload_n 0, 1), (.aload_n 0, 1), (.iload_n 1, 1)] (by decide +kernel) (pc' := 8) (ls' := [some (.ref am), some (.int (nI (e)))]) (st' := [.int (nI (e)), .ref am, .ref am]) rfl rfl (Nat.le_of_ble_eq_true rfl) ?_
  refine VR.call h (np := 1) (st := [.ref am]) (r_noEpoch_ hls A1 (noIx_nI (by omega) (by omega))) wc_X11_noEpoch wn_RX11 (Or.inl wm_RX11_289) wi_X11_noEpoch we_X11_noEpoch (by decide +kernel) rfl (by decide) (by decide) (by simp [Value.category]) (by decide +kernel) rfl ?_
  refine VR.blk h [(.iconst 1, 1)] (by decide +kernel) (pc' := 12) (ls' := [some (.ref am), some (.int (nI (e)))]) (st' := [.int (nI (1)), .int (bI (false)), .ref am]) rfl rfl (Nat.le_of_ble_eq_true rfl) ?_
  refine VR.call h (np := 2) (st := []) (r_throwsN hls A1 1) wc_X11_throwsIf wn_RX11 (Or.inl wm_RX11_247) wi_X11_throwsIf we_X11_throwsIf (by decide +kernel) rfl (by decide) (by decide) (by simp [Value.category]) (by decide +kernel) rfl ?_
  refine VR.if_ne h (off := 12) (by decide +kernel) (tgt := 27) (by decide) (fun q => absurd (by decide) q) (fun _ => ?_)
  refine VR.blk h [(.aload_n 0, 1)] (by decide +kernel) (pc' := 19) (ls' := [some (.ref am), some (.int (nI (e)))]) (st' := [.ref am]) rfl rfl (Nat.le_of_ble_eq_true rfl) ?_
  refine VR.getA h (j := 30) rfl (Or.inl wf_RX11_81) (by decide +kernel) ?_
  refine VR.blk h [(.iload_n 1, 1)] (by decide +kernel) (pc' := 23) (ls' := [some (.ref am), some (.int (nI (e)))]) (st' := [.int (nI (e)), .ref (ad 30)]) rfl rfl (Nat.le_of_ble_eq_true rfl) ?_
  refine VR.bald h (j := 30) (i := e) rfl rfl (by show _ < 12; omega) (by decide +kernel) (v := (bI (tb A1 30 e))) (mval_4 rfl) ?_
  refine VR.if_ne h (off := 5) (by decide +kernel) (tgt := 29) (by decide) (fun q => ?_) (fun q => ?_)
  · have q24_13 := (bI_1 (fun z => q (bI_0.mpr z)))
    clear q
    exact absurd hv (by rw [q24_13]; decide)
  · have q24_13 := (bI_0.mp q)
    clear q
    refine VR.blk h [(.iconst 0, 1)] (by decide +kernel) (pc' := 28) (ls' := [some (.ref am), some (.int (nI (e)))]) (st' := [.int (nI (0))]) rfl rfl (Nat.le_of_ble_eq_true rfl) ?_
    refine VR.top (v' := .int (bI false)) (by rw [bI_f]) ?_
    exact VR.iret h hA hQ hr (bI_nar _) rfl rfl (by decide +kernel)

set_option maxRecDepth 100000 in
set_option maxHeartbeats 4000000 in
theorem r_sync {l : Launch} {D : va_G} {tc : Nat → ClassId} {am : Nat} {ad : Nat → Nat} (hls : l.stackTraces = false) (A : TS) (A1 : TS) (e K : Nat) (hA1 : A1 = sf A 0 0) (he : e < tf A1 38) (he2 : tf A1 38 ≤ 12) (hB : NB K A1) (hK : K < 1999980000) (hv : tb A1 30 e = true) (hf : tf A1 1 ≤ 3) (hl : tf A1 53 ≤ 250) (hK9 : 7300 ≤ K) : RM l D tc am ad yX11_sync cX11_sync 2 (some .boolean) 3 [.ref am, .int (nI (e))] A (some (.int (bI true))) (sycF A1 e) := by
  refine RM.of hls (by decide +kernel) (by simp [Value.category]) (Nat.le_of_ble_eq_true rfl) (fun A0 p e9 s m args below meth c S0 sz Q h hr hA hQ => ?_)
  refine VR.eqL (ls' := [some (.ref am), some (.int (nI (e)))]) rfl ?_
  refine VR.blk h [(.aload_n 0, 1), (.iconst 0, 1)] (by decide +kernel) (pc' := 2) (ls' := [some (.ref am), some (.int (nI (e)))]) (st' := [.int (nI (0)), .ref am]) rfl rfl (Nat.le_of_ble_eq_true rfl) ?_
  refine VR.putI h (j := 0) rfl rfl rfl (Or.inl wf_RX11_1) (by decide +kernel) ?_
  refine VR.eqA (A' := A1) hA1 ?_
  refine VR.blk h [(.aload_n 0, 1), (.aload_n 0, 1), (.iload_n 1, 1)] (by decide +kernel) (pc' := 8) (ls' := [some (.ref am), some (.int (nI (e)))]) (st' := [.int (nI (e)), .ref am, .ref am]) rfl rfl (Nat.le_of_ble_eq_true rfl) ?_
  refine VR.call h (np := 1) (st := [.ref am]) (r_noEpoch_ hls A1 (noIx_nI (by omega) (by omega))) wc_X11_noEpoch wn_RX11 (Or.inl wm_RX11_289) wi_X11_noEpoch we_X11_noEpoch (by decide +kernel) rfl (by decide) (by decide) (by simp [Value.category]) (by decide +kernel) rfl ?_
  refine VR.blk h [(.iconst 1, 1)] (by decide +kernel) (pc' := 12) (ls' := [some (.ref am), some (.int (nI (e)))]) (st' := [.int (nI (1)), .int (bI (false)), .ref am]) rfl rfl (Nat.le_of_ble_eq_true rfl) ?_
  refine VR.call h (np := 2) (st := []) (r_throwsN hls A1 1) wc_X11_throwsIf wn_RX11 (Or.inl wm_RX11_247) wi_X11_throwsIf we_X11_throwsIf (by decide +kernel) rfl (by decide) (by decide) (by simp [Value.category]) (by decide +kernel) rfl ?_
  refine VR.if_ne h (off := 12) (by decide +kernel) (tgt := 27) (by decide) (fun q => absurd (by decide) q) (fun _ => ?_)
  refine VR.blk h [(.aload_n 0, 1)] (by decide +kernel) (pc' := 19) (ls' := [some (.ref am), some (.int (nI (e)))]) (st' := [.ref am]) rfl rfl (Nat.le_of_ble_eq_true rfl) ?_
  refine VR.getA h (j := 30) rfl (Or.inl wf_RX11_81) (by decide +kernel) ?_
  refine VR.blk h [(.iload_n 1, 1)] (by decide +kernel) (pc' := 23) (ls' := [some (.ref am), some (.int (nI (e)))]) (st' := [.int (nI (e)), .ref (ad 30)]) rfl rfl (Nat.le_of_ble_eq_true rfl) ?_
  refine VR.bald h (j := 30) (i := e) rfl rfl (by show _ < 12; omega) (by decide +kernel) (v := (bI (tb A1 30 e))) (mval_4 rfl) ?_
  refine VR.if_ne h (off := 5) (by decide +kernel) (tgt := 29) (by decide) (fun q => ?_) (fun q => ?_)
  · have q24_13 := (bI_1 (fun z => q (bI_0.mpr z)))
    clear q
    refine VR.blk h [(.aload_n 0, 1), (.iload_n 1, 1)] (by decide +kernel) (pc' := 31) (ls' := [some (.ref am), some (.int (nI (e)))]) (st' := [.int (nI (e)), .ref am]) rfl rfl (Nat.le_of_ble_eq_true rfl) ?_
    refine VR.call h (np := 1) (st := []) (r_syncs hls A1 e K (by omega) hf hl hK9 hB (by omega)) wc_X11_syncs wn_RX11 (Or.inl wm_RX11_191) wi_X11_syncs we_X11_syncs (by decide +kernel) rfl (by decide) (by decide) (by simp [Value.category]) (by decide +kernel) rfl ?_
    refine VR.blk h [(.aload_n 0, 1)] (by decide +kernel) (pc' := 35) (ls' := [some (.ref am), some (.int (nI (e)))]) (st' := [.ref am]) rfl rfl (Nat.le_of_ble_eq_true rfl) ?_
    refine VR.getA h (j := 31) rfl (Or.inl wf_RX11_84) (by decide +kernel) ?_
    refine VR.blk h [(.iload_n 1, 1)] (by decide +kernel) (pc' := 39) (ls' := [some (.ref am), some (.int (nI (e)))]) (st' := [.int (nI (e)), .ref (ad 31)]) rfl rfl (Nat.le_of_ble_eq_true rfl) ?_
    refine VR.bald h (j := 31) (i := e) rfl rfl (by show _ < 12; omega) (by decide +kernel) (v := (bI (tb A1 31 e))) ((mval_4 rfl).trans (congrArg bI ((syn_keepB A1 e).2 31 e (by decide)))) ?_
    refine VR.if_eq h (off := 12) (by decide +kernel) (tgt := 52) (by decide) (fun q => ?_) (fun q => ?_)
    · have q40_22 := (bI_0.mp q)
      clear q
      refine VR.blk h [(.iconst 1, 1)] (by decide +kernel) (pc' := 53) (ls' := [some (.ref am), some (.int (nI (e)))]) (st' := [.int (nI (1))]) rfl rfl (Nat.le_of_ble_eq_true rfl) ?_
      refine VR.top (v' := .int (bI true)) (by rw [bI_t]) ?_
      exact VR.iret h hA hQ hr (bI_nar _) rfl (by unfold sycF; rw [if_neg (fun z => Bool.noConfusion (z.1.symm.trans q40_22))]) (by decide +kernel)
    · have q40_22 := (bI_1 (fun z => q (bI_0.mpr z)))
      clear q
      refine VR.blk h [(.iload_n 1, 1)] (by decide +kernel) (pc' := 44) (ls' := [some (.ref am), some (.int (nI (e)))]) (st' := [.int (nI (e))]) rfl rfl (Nat.le_of_ble_eq_true rfl) ?_
      refine VR.if_le h (off := 8) (by decide +kernel) (tgt := 52) (by decide) (fun q => ?_) (fun q => ?_)
      · have q44_31 := ((nI_z_le (by omega)).mp q)
        clear q
        refine VR.blk h [(.iconst 1, 1)] (by decide +kernel) (pc' := 53) (ls' := [some (.ref am), some (.int (nI (e)))]) (st' := [.int (nI (1))]) rfl rfl (Nat.le_of_ble_eq_true rfl) ?_
        refine VR.top (v' := .int (bI true)) (by rw [bI_t]) ?_
        exact VR.iret h hA hQ hr (bI_nar _) rfl (by unfold sycF; rw [if_neg (fun z => absurd z.2 (by omega))]) (by decide +kernel)
      · have q44_31 : ¬ _ := (fun z => q ((nI_z_le (by omega)).mpr z))
        clear q
        refine VR.blk h [(.aload_n 0, 1), (.iload_n 1, 1)] (by decide +kernel) (pc' := 49) (ls' := [some (.ref am), some (.int (nI (e)))]) (st' := [.int (nI (e)), .ref am]) rfl rfl (Nat.le_of_ble_eq_true rfl) ?_
        refine VR.call h (np := 1) (st := []) (r_resets hls (synF A1 e) e (K + 5) (by omega) (by rw [(syn_keep A1 e).1 1 (by decide) (by decide)]; exact hf) (syn_le hl) (by omega) (syn_NB hB (by omega) (by omega) hf) (by omega)) wc_X11_resets wn_RX11 (Or.inl wm_RX11_216) wi_X11_resets we_X11_resets (by decide +kernel) rfl (by decide) (by decide) (by simp [Value.category]) (by decide +kernel) rfl ?_
        refine VR.blk h [(.iconst 1, 1)] (by decide +kernel) (pc' := 53) (ls' := [some (.ref am), some (.int (nI (e)))]) (st' := [.int (nI (1))]) rfl rfl (Nat.le_of_ble_eq_true rfl) ?_
        refine VR.top (v' := .int (bI true)) (by rw [bI_t]) ?_
        exact VR.iret h hA hQ hr (bI_nar _) rfl (by unfold sycF; rw [if_pos ⟨q40_22, (by omega)⟩]) (by decide +kernel)
  · have q24_13 := (bI_0.mp q)
    clear q
    exact absurd hv (by rw [q24_13]; decide)

set_option maxRecDepth 100000 in
set_option maxHeartbeats 4000000 in
theorem r_retry_n {l : Launch} {D : va_G} {tc : Nat → ClassId} {am : Nat} {ad : Nat → Nat} (hls : l.stackTraces = false) (A : TS) (A1 : TS) (c9 K : Nat) (hA1 : A1 = sf A 0 0) (hc : c9 < 4) (hlt : tn A1 16 c9 ≤ 600) (hB : NB K A1) (hK : K < 1999980000) (ho : opnF A1 c9 = false) : RM l D tc am ad yX11_retry cX11_retry 2 (some .boolean) 3 [.ref am, .int (nI (c9))] A (some (.int (bI false))) (A1) := by
  refine RM.of hls (by decide +kernel) (by simp [Value.category]) (Nat.le_of_ble_eq_true rfl) (fun A0 p e9 s m args below meth c S0 sz Q h hr hA hQ => ?_)
  refine VR.eqL (ls' := [some (.ref am), some (.int (nI (c9)))]) rfl ?_
  refine VR.blk h [(.aload_n 0, 1), (.iconst 0, 1)] (by decide +kernel) (pc' := 2) (ls' := [some (.ref am), some (.int (nI (c9)))]) (st' := [.int (nI (0)), .ref am]) rfl rfl (Nat.le_of_ble_eq_true rfl) ?_
  refine VR.putI h (j := 0) rfl rfl rfl (Or.inl wf_RX11_1) (by decide +kernel) ?_
  refine VR.eqA (A' := A1) hA1 ?_
  refine VR.blk h [(.aload_n 0, 1), (.iload_n 1, 1)] (by decide +kernel) (pc' := 7) (ls' := [some (.ref am), some (.int (nI (c9)))]) (st' := [.int (nI (c9)), .ref am]) rfl rfl (Nat.le_of_ble_eq_true rfl) ?_
  refine VR.callS h (np := 1) (st := [.ref am]) (r_noClient_ hls A1 (by rw [noIx_nI (by omega) (by decide)])) wc_X11_noClient wn_RX11 (Or.inl wm_RX11_244) wt_X11_noClient (by decide +kernel) rfl (by decide) (by decide) (by simp [Value.category]) (by decide +kernel) rfl ?_
  refine VR.blk h [(.iconst 1, 1)] (by decide +kernel) (pc' := 11) (ls' := [some (.ref am), some (.int (nI (c9)))]) (st' := [.int (nI (1)), .int (bI (false)), .ref am]) rfl rfl (Nat.le_of_ble_eq_true rfl) ?_
  refine VR.call h (np := 2) (st := []) (r_throwsN hls A1 1) wc_X11_throwsIf wn_RX11 (Or.inl wm_RX11_247) wi_X11_throwsIf we_X11_throwsIf (by decide +kernel) rfl (by decide) (by decide) (by simp [Value.category]) (by decide +kernel) rfl ?_
  refine VR.if_ne h (off := 11) (by decide +kernel) (tgt := 25) (by decide) (fun q => absurd (by decide) q) (fun _ => ?_)
  refine VR.blk h [(.aload_n 0, 1), (.iload_n 1, 1)] (by decide +kernel) (pc' := 19) (ls' := [some (.ref am), some (.int (nI (c9)))]) (st' := [.int (nI (c9)), .ref am]) rfl rfl (Nat.le_of_ble_eq_true rfl) ?_
  refine VR.call h (np := 1) (st := []) (r_isOpen_ hls A1 (K := K) (b := false) ho hc hlt hB (by omega)) wc_X11_isOpen wn_RX11 (Or.inl wm_RX11_238) wi_X11_isOpen we_X11_isOpen (by decide +kernel) rfl (by decide) (by decide) (by simp [Value.category]) (by decide +kernel) rfl ?_
  refine VR.if_ne h (off := 5) (by decide +kernel) (tgt := 27) (by decide) (fun q => absurd (by decide) q) (fun _ => ?_)
  refine VR.blk h [(.iconst 0, 1)] (by decide +kernel) (pc' := 26) (ls' := [some (.ref am), some (.int (nI (c9)))]) (st' := [.int (nI (0))]) rfl rfl (Nat.le_of_ble_eq_true rfl) ?_
  refine VR.top (v' := .int (bI false)) (by rw [bI_f]) ?_
  exact VR.iret h hA hQ hr (bI_nar _) rfl rfl (by decide +kernel)

set_option maxRecDepth 100000 in
set_option maxHeartbeats 4000000 in
theorem r_retry {l : Launch} {D : va_G} {tc : Nat → ClassId} {am : Nat} {ad : Nat → Nat} (hls : l.stackTraces = false) (A : TS) (A1 : TS) (c9 K : Nat) (hA1 : A1 = sf A 0 0) (hc : c9 < 4) (hlt : tn A1 16 c9 ≤ 600) (hB : NB K A1) (hK : K < 1999980000) (ho : opnF A1 c9 = true) (hf : tf A1 1 ≤ 3) (hl : tf A1 53 ≤ 250) (hK9 : 7300 ≤ K) : RM l D tc am ad yX11_retry cX11_retry 2 (some .boolean) 3 [.ref am, .int (nI (c9))] A (some (.int (bI true))) (begF A1 c9) := by
  refine RM.of hls (by decide +kernel) (by simp [Value.category]) (Nat.le_of_ble_eq_true rfl) (fun A0 p e9 s m args below meth c S0 sz Q h hr hA hQ => ?_)
  refine VR.eqL (ls' := [some (.ref am), some (.int (nI (c9)))]) rfl ?_
  refine VR.blk h [(.aload_n 0, 1), (.iconst 0, 1)] (by decide +kernel) (pc' := 2) (ls' := [some (.ref am), some (.int (nI (c9)))]) (st' := [.int (nI (0)), .ref am]) rfl rfl (Nat.le_of_ble_eq_true rfl) ?_
  refine VR.putI h (j := 0) rfl rfl rfl (Or.inl wf_RX11_1) (by decide +kernel) ?_
  refine VR.eqA (A' := A1) hA1 ?_
  refine VR.blk h [(.aload_n 0, 1), (.iload_n 1, 1)] (by decide +kernel) (pc' := 7) (ls' := [some (.ref am), some (.int (nI (c9)))]) (st' := [.int (nI (c9)), .ref am]) rfl rfl (Nat.le_of_ble_eq_true rfl) ?_
  refine VR.callS h (np := 1) (st := [.ref am]) (r_noClient_ hls A1 (by rw [noIx_nI (by omega) (by decide)])) wc_X11_noClient wn_RX11 (Or.inl wm_RX11_244) wt_X11_noClient (by decide +kernel) rfl (by decide) (by decide) (by simp [Value.category]) (by decide +kernel) rfl ?_
  refine VR.blk h [(.iconst 1, 1)] (by decide +kernel) (pc' := 11) (ls' := [some (.ref am), some (.int (nI (c9)))]) (st' := [.int (nI (1)), .int (bI (false)), .ref am]) rfl rfl (Nat.le_of_ble_eq_true rfl) ?_
  refine VR.call h (np := 2) (st := []) (r_throwsN hls A1 1) wc_X11_throwsIf wn_RX11 (Or.inl wm_RX11_247) wi_X11_throwsIf we_X11_throwsIf (by decide +kernel) rfl (by decide) (by decide) (by simp [Value.category]) (by decide +kernel) rfl ?_
  refine VR.if_ne h (off := 11) (by decide +kernel) (tgt := 25) (by decide) (fun q => absurd (by decide) q) (fun _ => ?_)
  refine VR.blk h [(.aload_n 0, 1), (.iload_n 1, 1)] (by decide +kernel) (pc' := 19) (ls' := [some (.ref am), some (.int (nI (c9)))]) (st' := [.int (nI (c9)), .ref am]) rfl rfl (Nat.le_of_ble_eq_true rfl) ?_
  refine VR.call h (np := 1) (st := []) (r_isOpen_ hls A1 (K := K) (b := true) ho hc hlt hB (by omega)) wc_X11_isOpen wn_RX11 (Or.inl wm_RX11_238) wi_X11_isOpen we_X11_isOpen (by decide +kernel) rfl (by decide) (by decide) (by simp [Value.category]) (by decide +kernel) rfl ?_
  refine VR.if_ne h (off := 5) (by decide +kernel) (tgt := 27) (by decide) (fun _ => ?_) (fun q => absurd q (by decide))
  refine VR.blk h [(.aload_n 0, 1), (.iload_n 1, 1)] (by decide +kernel) (pc' := 29) (ls' := [some (.ref am), some (.int (nI (c9)))]) (st' := [.int (nI (c9)), .ref am]) rfl rfl (Nat.le_of_ble_eq_true rfl) ?_
  refine VR.call h (np := 1) (st := []) (r_begins hls A1 c9 K hc (of_decide_eq_true ho).1 hlt (by omega) hf hl hK9 hB (by omega)) wc_X11_begins wn_RX11 (Or.inl wm_RX11_254) wi_X11_begins we_X11_begins (by decide +kernel) rfl (by decide) (by decide) (by simp [Value.category]) (by decide +kernel) rfl ?_
  refine VR.blk h [(.iconst 1, 1)] (by decide +kernel) (pc' := 33) (ls' := [some (.ref am), some (.int (nI (c9)))]) (st' := [.int (nI (1))]) rfl rfl (Nat.le_of_ble_eq_true rfl) ?_
  refine VR.top (v' := .int (bI true)) (by rw [bI_t]) ?_
  exact VR.iret h hA hQ hr (bI_nar _) rfl rfl (by decide +kernel)

set_option maxRecDepth 100000 in
set_option maxHeartbeats 4000000 in
theorem r_learn_s {l : Launch} {D : va_G} {tc : Nat → ClassId} {am : Nat} {ad : Nat → Nat} (hls : l.stackTraces = false) (A : TS) (A1 : TS) (c9 K : Nat) (hA1 : A1 = sf A 0 0) (hc : c9 < 4) (hlt : tn A1 16 c9 ≤ 600) (hB : NB K A1) (hK : K < 1999980000) (he1 : 1 ≤ tf A1 38) (hs : tn A1 17 c9 = tf A1 38 - 1) : RM l D tc am ad yX11_learn cX11_learn 2 (some .int) 3 [.ref am, .int (nI (c9))] A (some (.int (nI (tf A1 38 - 1)))) (A1) := by
  refine RM.of hls (by decide +kernel) (by simp [Value.category]) (Nat.le_of_ble_eq_true rfl) (fun A0 p e9 s m args below meth c S0 sz Q h hr hA hQ => ?_)
  refine VR.eqL (ls' := [some (.ref am), some (.int (nI (c9)))]) rfl ?_
  refine VR.blk h [(.aload_n 0, 1), (.iconst 0, 1)] (by decide +kernel) (pc' := 2) (ls' := [some (.ref am), some (.int (nI (c9)))]) (st' := [.int (nI (0)), .ref am]) rfl rfl (Nat.le_of_ble_eq_true rfl) ?_
  refine VR.putI h (j := 0) rfl rfl rfl (Or.inl wf_RX11_1) (by decide +kernel) ?_
  refine VR.eqA (A' := A1) hA1 ?_
  refine VR.blk h [(.aload_n 0, 1), (.iload_n 1, 1)] (by decide +kernel) (pc' := 7) (ls' := [some (.ref am), some (.int (nI (c9)))]) (st' := [.int (nI (c9)), .ref am]) rfl rfl (Nat.le_of_ble_eq_true rfl) ?_
  refine VR.callS h (np := 1) (st := [.ref am]) (r_noClient_ hls A1 (by rw [noIx_nI (by omega) (by decide)])) wc_X11_noClient wn_RX11 (Or.inl wm_RX11_244) wt_X11_noClient (by decide +kernel) rfl (by decide) (by decide) (by simp [Value.category]) (by decide +kernel) rfl ?_
  refine VR.blk h [(.iconst 1, 1)] (by decide +kernel) (pc' := 11) (ls' := [some (.ref am), some (.int (nI (c9)))]) (st' := [.int (nI (1)), .int (bI (false)), .ref am]) rfl rfl (Nat.le_of_ble_eq_true rfl) ?_
  refine VR.call h (np := 2) (st := []) (r_throwsN hls A1 1) wc_X11_throwsIf wn_RX11 (Or.inl wm_RX11_247) wi_X11_throwsIf we_X11_throwsIf (by decide +kernel) rfl (by decide) (by decide) (by simp [Value.category]) (by decide +kernel) rfl ?_
  refine VR.if_eq h (off := 5) (by decide +kernel) (tgt := 19) (by decide) (fun _ => ?_) (fun q => absurd (by decide) q)
  refine VR.blk h [(.aload_n 0, 1)] (by decide +kernel) (pc' := 20) (ls' := [some (.ref am), some (.int (nI (c9)))]) (st' := [.ref am]) rfl rfl (Nat.le_of_ble_eq_true rfl) ?_
  refine VR.getA h (j := 17) rfl (Or.inl wf_RX11_41) (by decide +kernel) ?_
  refine VR.blk h [(.iload_n 1, 1)] (by decide +kernel) (pc' := 24) (ls' := [some (.ref am), some (.int (nI (c9)))]) (st' := [.int (nI (c9)), .ref (ad 17)]) rfl rfl (Nat.le_of_ble_eq_true rfl) ?_
  refine VR.iald h (j := 17) (i := c9) rfl rfl (by show _ < 4; omega) (by decide +kernel) (v := (nI (tn A1 17 c9))) (mval_1 rfl) ?_
  have nb13 := hB.2 17 c9
  refine VR.blk h [(.aload_n 0, 1)] (by decide +kernel) (pc' := 26) (ls' := [some (.ref am), some (.int (nI (c9)))]) (st' := [.ref am, .int (nI (tn A1 17 c9))]) rfl rfl (Nat.le_of_ble_eq_true rfl) ?_
  refine VR.getI h (j := 38) rfl (Or.inl wf_RX11_167) (by decide +kernel) (v := tf A1 38) rfl ?_
  refine VR.blk h [(.iconst 1, 1)] (by decide +kernel) (pc' := 30) (ls' := [some (.ref am), some (.int (nI (c9)))]) (st' := [.int (nI (1)), .int (nI (tf A1 38)), .int (nI (tn A1 17 c9))]) rfl rfl (Nat.le_of_ble_eq_true rfl) ?_
  refine VR.subN h (by decide +kernel) (Nat.le_of_ble_eq_true rfl) (by omega) ?_
  refine VR.icmp_eq h (off := 28) (by decide +kernel) (tgt := 59) (by decide) (fun q => ?_) (fun q => ?_)
  · have q31_18 := ((nI_eq (by omega) (by omega)).mp q)
    clear q
    refine VR.blk h [(.aload_n 0, 1)] (by decide +kernel) (pc' := 60) (ls' := [some (.ref am), some (.int (nI (c9)))]) (st' := [.ref am]) rfl rfl (Nat.le_of_ble_eq_true rfl) ?_
    refine VR.getI h (j := 38) rfl (Or.inl wf_RX11_167) (by decide +kernel) (v := tf A1 38) rfl ?_
    refine VR.blk h [(.iconst 1, 1)] (by decide +kernel) (pc' := 64) (ls' := [some (.ref am), some (.int (nI (c9)))]) (st' := [.int (nI (1)), .int (nI (tf A1 38))]) rfl rfl (Nat.le_of_ble_eq_true rfl) ?_
    refine VR.subN h (by decide +kernel) (Nat.le_of_ble_eq_true rfl) (by omega) ?_
    exact VR.iret h hA hQ hr rfl rfl rfl (by decide +kernel)
  · have q31_18 : ¬ _ := (fun z => q ((nI_eq (by omega) (by omega)).mpr z))
    clear q
    exact absurd hs q31_18

set_option maxRecDepth 100000 in
set_option maxHeartbeats 4000000 in
theorem r_learn_n {l : Launch} {D : va_G} {tc : Nat → ClassId} {am : Nat} {ad : Nat → Nat} (hls : l.stackTraces = false) (A : TS) (A1 : TS) (c9 K : Nat) (hA1 : A1 = sf A 0 0) (hc : c9 < 4) (hlt : tn A1 16 c9 ≤ 600) (hB : NB K A1) (hK : K < 1999980000) (he1 : 1 ≤ tf A1 38) (hs : tn A1 17 c9 ≠ tf A1 38 - 1) (ho : opnF A1 c9 = false) : RM l D tc am ad yX11_learn cX11_learn 2 (some .int) 3 [.ref am, .int (nI (c9))] A (some (.int (nI (tf A1 38 - 1)))) (sn A1 17 c9 (tf A1 38 - 1)) := by
  refine RM.of hls (by decide +kernel) (by simp [Value.category]) (Nat.le_of_ble_eq_true rfl) (fun A0 p e9 s m args below meth c S0 sz Q h hr hA hQ => ?_)
  have nb38 := hB.1 38
  refine VR.eqL (ls' := [some (.ref am), some (.int (nI (c9)))]) rfl ?_
  refine VR.blk h [(.aload_n 0, 1), (.iconst 0, 1)] (by decide +kernel) (pc' := 2) (ls' := [some (.ref am), some (.int (nI (c9)))]) (st' := [.int (nI (0)), .ref am]) rfl rfl (Nat.le_of_ble_eq_true rfl) ?_
  refine VR.putI h (j := 0) rfl rfl rfl (Or.inl wf_RX11_1) (by decide +kernel) ?_
  refine VR.eqA (A' := A1) hA1 ?_
  refine VR.blk h [(.aload_n 0, 1), (.iload_n 1, 1)] (by decide +kernel) (pc' := 7) (ls' := [some (.ref am), some (.int (nI (c9)))]) (st' := [.int (nI (c9)), .ref am]) rfl rfl (Nat.le_of_ble_eq_true rfl) ?_
  refine VR.callS h (np := 1) (st := [.ref am]) (r_noClient_ hls A1 (by rw [noIx_nI (by omega) (by decide)])) wc_X11_noClient wn_RX11 (Or.inl wm_RX11_244) wt_X11_noClient (by decide +kernel) rfl (by decide) (by decide) (by simp [Value.category]) (by decide +kernel) rfl ?_
  refine VR.blk h [(.iconst 1, 1)] (by decide +kernel) (pc' := 11) (ls' := [some (.ref am), some (.int (nI (c9)))]) (st' := [.int (nI (1)), .int (bI (false)), .ref am]) rfl rfl (Nat.le_of_ble_eq_true rfl) ?_
  refine VR.call h (np := 2) (st := []) (r_throwsN hls A1 1) wc_X11_throwsIf wn_RX11 (Or.inl wm_RX11_247) wi_X11_throwsIf we_X11_throwsIf (by decide +kernel) rfl (by decide) (by decide) (by simp [Value.category]) (by decide +kernel) rfl ?_
  refine VR.if_eq h (off := 5) (by decide +kernel) (tgt := 19) (by decide) (fun _ => ?_) (fun q => absurd (by decide) q)
  refine VR.blk h [(.aload_n 0, 1)] (by decide +kernel) (pc' := 20) (ls' := [some (.ref am), some (.int (nI (c9)))]) (st' := [.ref am]) rfl rfl (Nat.le_of_ble_eq_true rfl) ?_
  refine VR.getA h (j := 17) rfl (Or.inl wf_RX11_41) (by decide +kernel) ?_
  refine VR.blk h [(.iload_n 1, 1)] (by decide +kernel) (pc' := 24) (ls' := [some (.ref am), some (.int (nI (c9)))]) (st' := [.int (nI (c9)), .ref (ad 17)]) rfl rfl (Nat.le_of_ble_eq_true rfl) ?_
  refine VR.iald h (j := 17) (i := c9) rfl rfl (by show _ < 4; omega) (by decide +kernel) (v := (nI (tn A1 17 c9))) (mval_1 rfl) ?_
  have nb14 := hB.2 17 c9
  refine VR.blk h [(.aload_n 0, 1)] (by decide +kernel) (pc' := 26) (ls' := [some (.ref am), some (.int (nI (c9)))]) (st' := [.ref am, .int (nI (tn A1 17 c9))]) rfl rfl (Nat.le_of_ble_eq_true rfl) ?_
  refine VR.getI h (j := 38) rfl (Or.inl wf_RX11_167) (by decide +kernel) (v := tf A1 38) rfl ?_
  refine VR.blk h [(.iconst 1, 1)] (by decide +kernel) (pc' := 30) (ls' := [some (.ref am), some (.int (nI (c9)))]) (st' := [.int (nI (1)), .int (nI (tf A1 38)), .int (nI (tn A1 17 c9))]) rfl rfl (Nat.le_of_ble_eq_true rfl) ?_
  refine VR.subN h (by decide +kernel) (Nat.le_of_ble_eq_true rfl) (by omega) ?_
  refine VR.icmp_eq h (off := 28) (by decide +kernel) (tgt := 59) (by decide) (fun q => ?_) (fun q => ?_)
  · have q31_19 := ((nI_eq (by omega) (by omega)).mp q)
    clear q
    exact absurd q31_19 hs
  · have q31_19 : ¬ _ := (fun z => q ((nI_eq (by omega) (by omega)).mpr z))
    clear q
    refine VR.blk h [(.aload_n 0, 1)] (by decide +kernel) (pc' := 35) (ls' := [some (.ref am), some (.int (nI (c9)))]) (st' := [.ref am]) rfl rfl (Nat.le_of_ble_eq_true rfl) ?_
    refine VR.getA h (j := 17) rfl (Or.inl wf_RX11_41) (by decide +kernel) ?_
    refine VR.blk h [(.iload_n 1, 1), (.aload_n 0, 1)] (by decide +kernel) (pc' := 40) (ls' := [some (.ref am), some (.int (nI (c9)))]) (st' := [.ref am, .int (nI (c9)), .ref (ad 17)]) rfl rfl (Nat.le_of_ble_eq_true rfl) ?_
    refine VR.getI h (j := 38) rfl (Or.inl wf_RX11_167) (by decide +kernel) (v := tf A1 38) rfl ?_
    refine VR.blk h [(.iconst 1, 1)] (by decide +kernel) (pc' := 44) (ls' := [some (.ref am), some (.int (nI (c9)))]) (st' := [.int (nI (1)), .int (nI (tf A1 38)), .int (nI (c9)), .ref (ad 17)]) rfl rfl (Nat.le_of_ble_eq_true rfl) ?_
    refine VR.subN h (by decide +kernel) (Nat.le_of_ble_eq_true rfl) (by omega) ?_
    refine VR.iastN h (j := 17) (i := c9) rfl rfl (by show _ < 4; omega) (by decide +kernel) ?_
    refine VR.blk h [(.aload_n 0, 1), (.iload_n 1, 1)] (by decide +kernel) (pc' := 48) (ls' := [some (.ref am), some (.int (nI (c9)))]) (st' := [.int (nI (c9)), .ref am]) rfl rfl (Nat.le_of_ble_eq_true rfl) ?_
    refine VR.call h (np := 1) (st := []) (r_isOpen_ hls (sn A1 17 c9 ((tf A1 38) - 1)) (K := K) (b := false) ho hc hlt (hB.sn (by omega)) (by omega)) wc_X11_isOpen wn_RX11 (Or.inl wm_RX11_238) wi_X11_isOpen we_X11_isOpen (by decide +kernel) rfl (by decide) (by decide) (by simp [Value.category]) (by decide +kernel) rfl ?_
    refine VR.if_eq h (off := 8) (by decide +kernel) (tgt := 59) (by decide) (fun _ => ?_) (fun q => absurd (by decide) q)
    refine VR.blk h [(.aload_n 0, 1)] (by decide +kernel) (pc' := 60) (ls' := [some (.ref am), some (.int (nI (c9)))]) (st' := [.ref am]) rfl rfl (Nat.le_of_ble_eq_true rfl) ?_
    refine VR.getI h (j := 38) rfl (Or.inl wf_RX11_167) (by decide +kernel) (v := tf A1 38) rfl ?_
    refine VR.blk h [(.iconst 1, 1)] (by decide +kernel) (pc' := 64) (ls' := [some (.ref am), some (.int (nI (c9)))]) (st' := [.int (nI (1)), .int (nI (tf A1 38))]) rfl rfl (Nat.le_of_ble_eq_true rfl) ?_
    refine VR.subN h (by decide +kernel) (Nat.le_of_ble_eq_true rfl) (by omega) ?_
    exact VR.iret h hA hQ hr rfl rfl rfl (by decide +kernel)

set_option maxRecDepth 100000 in
set_option maxHeartbeats 4000000 in
theorem r_learn_o {l : Launch} {D : va_G} {tc : Nat → ClassId} {am : Nat} {ad : Nat → Nat} (hls : l.stackTraces = false) (A : TS) (A1 : TS) (c9 K : Nat) (hA1 : A1 = sf A 0 0) (hc : c9 < 4) (hlt : tn A1 16 c9 ≤ 600) (hB : NB K A1) (hK : K < 1999980000) (he1 : 1 ≤ tf A1 38) (hs : tn A1 17 c9 ≠ tf A1 38 - 1) (ho : opnF A1 c9 = true) (hf : tf A1 1 ≤ 3) (hl : tf A1 53 ≤ 250) (hK9 : 7300 ≤ K) : RM l D tc am ad yX11_learn cX11_learn 2 (some .int) 3 [.ref am, .int (nI (c9))] A (some (.int (nI (tf A1 38 - 1)))) (begF (sn A1 17 c9 (tf A1 38 - 1)) c9) := by
  refine RM.of hls (by decide +kernel) (by simp [Value.category]) (Nat.le_of_ble_eq_true rfl) (fun A0 p e9 s m args below meth c S0 sz Q h hr hA hQ => ?_)
  have nb38 := hB.1 38
  refine VR.eqL (ls' := [some (.ref am), some (.int (nI (c9)))]) rfl ?_
  refine VR.blk h [(.aload_n 0, 1), (.iconst 0, 1)] (by decide +kernel) (pc' := 2) (ls' := [some (.ref am), some (.int (nI (c9)))]) (st' := [.int (nI (0)), .ref am]) rfl rfl (Nat.le_of_ble_eq_true rfl) ?_
  refine VR.putI h (j := 0) rfl rfl rfl (Or.inl wf_RX11_1) (by decide +kernel) ?_
  refine VR.eqA (A' := A1) hA1 ?_
  refine VR.blk h [(.aload_n 0, 1), (.iload_n 1, 1)] (by decide +kernel) (pc' := 7) (ls' := [some (.ref am), some (.int (nI (c9)))]) (st' := [.int (nI (c9)), .ref am]) rfl rfl (Nat.le_of_ble_eq_true rfl) ?_
  refine VR.callS h (np := 1) (st := [.ref am]) (r_noClient_ hls A1 (by rw [noIx_nI (by omega) (by decide)])) wc_X11_noClient wn_RX11 (Or.inl wm_RX11_244) wt_X11_noClient (by decide +kernel) rfl (by decide) (by decide) (by simp [Value.category]) (by decide +kernel) rfl ?_
  refine VR.blk h [(.iconst 1, 1)] (by decide +kernel) (pc' := 11) (ls' := [some (.ref am), some (.int (nI (c9)))]) (st' := [.int (nI (1)), .int (bI (false)), .ref am]) rfl rfl (Nat.le_of_ble_eq_true rfl) ?_
  refine VR.call h (np := 2) (st := []) (r_throwsN hls A1 1) wc_X11_throwsIf wn_RX11 (Or.inl wm_RX11_247) wi_X11_throwsIf we_X11_throwsIf (by decide +kernel) rfl (by decide) (by decide) (by simp [Value.category]) (by decide +kernel) rfl ?_
  refine VR.if_eq h (off := 5) (by decide +kernel) (tgt := 19) (by decide) (fun _ => ?_) (fun q => absurd (by decide) q)
  refine VR.blk h [(.aload_n 0, 1)] (by decide +kernel) (pc' := 20) (ls' := [some (.ref am), some (.int (nI (c9)))]) (st' := [.ref am]) rfl rfl (Nat.le_of_ble_eq_true rfl) ?_
  refine VR.getA h (j := 17) rfl (Or.inl wf_RX11_41) (by decide +kernel) ?_
  refine VR.blk h [(.iload_n 1, 1)] (by decide +kernel) (pc' := 24) (ls' := [some (.ref am), some (.int (nI (c9)))]) (st' := [.int (nI (c9)), .ref (ad 17)]) rfl rfl (Nat.le_of_ble_eq_true rfl) ?_
  refine VR.iald h (j := 17) (i := c9) rfl rfl (by show _ < 4; omega) (by decide +kernel) (v := (nI (tn A1 17 c9))) (mval_1 rfl) ?_
  have nb14 := hB.2 17 c9
  refine VR.blk h [(.aload_n 0, 1)] (by decide +kernel) (pc' := 26) (ls' := [some (.ref am), some (.int (nI (c9)))]) (st' := [.ref am, .int (nI (tn A1 17 c9))]) rfl rfl (Nat.le_of_ble_eq_true rfl) ?_
  refine VR.getI h (j := 38) rfl (Or.inl wf_RX11_167) (by decide +kernel) (v := tf A1 38) (by first | rfl | exact (beg_keep (sn A1 17 c9 (tf A1 38 - 1)) c9).1 38 (by decide) (by decide)) ?_
  refine VR.blk h [(.iconst 1, 1)] (by decide +kernel) (pc' := 30) (ls' := [some (.ref am), some (.int (nI (c9)))]) (st' := [.int (nI (1)), .int (nI (tf A1 38)), .int (nI (tn A1 17 c9))]) rfl rfl (Nat.le_of_ble_eq_true rfl) ?_
  refine VR.subN h (by decide +kernel) (Nat.le_of_ble_eq_true rfl) (by omega) ?_
  refine VR.icmp_eq h (off := 28) (by decide +kernel) (tgt := 59) (by decide) (fun q => ?_) (fun q => ?_)
  · have q31_19 := ((nI_eq (by omega) (by omega)).mp q)
    clear q
    exact absurd q31_19 hs
  · have q31_19 : ¬ _ := (fun z => q ((nI_eq (by omega) (by omega)).mpr z))
    clear q
    refine VR.blk h [(.aload_n 0, 1)] (by decide +kernel) (pc' := 35) (ls' := [some (.ref am), some (.int (nI (c9)))]) (st' := [.ref am]) rfl rfl (Nat.le_of_ble_eq_true rfl) ?_
    refine VR.getA h (j := 17) rfl (Or.inl wf_RX11_41) (by decide +kernel) ?_
    refine VR.blk h [(.iload_n 1, 1), (.aload_n 0, 1)] (by decide +kernel) (pc' := 40) (ls' := [some (.ref am), some (.int (nI (c9)))]) (st' := [.ref am, .int (nI (c9)), .ref (ad 17)]) rfl rfl (Nat.le_of_ble_eq_true rfl) ?_
    refine VR.getI h (j := 38) rfl (Or.inl wf_RX11_167) (by decide +kernel) (v := tf A1 38) (by first | rfl | exact (beg_keep (sn A1 17 c9 (tf A1 38 - 1)) c9).1 38 (by decide) (by decide)) ?_
    refine VR.blk h [(.iconst 1, 1)] (by decide +kernel) (pc' := 44) (ls' := [some (.ref am), some (.int (nI (c9)))]) (st' := [.int (nI (1)), .int (nI (tf A1 38)), .int (nI (c9)), .ref (ad 17)]) rfl rfl (Nat.le_of_ble_eq_true rfl) ?_
    refine VR.subN h (by decide +kernel) (Nat.le_of_ble_eq_true rfl) (by omega) ?_
    refine VR.iastN h (j := 17) (i := c9) rfl rfl (by show _ < 4; omega) (by decide +kernel) ?_
    refine VR.blk h [(.aload_n 0, 1), (.iload_n 1, 1)] (by decide +kernel) (pc' := 48) (ls' := [some (.ref am), some (.int (nI (c9)))]) (st' := [.int (nI (c9)), .ref am]) rfl rfl (Nat.le_of_ble_eq_true rfl) ?_
    refine VR.call h (np := 1) (st := []) (r_isOpen_ hls (sn A1 17 c9 ((tf A1 38) - 1)) (K := K) (b := true) ho hc hlt (hB.sn (by omega)) (by omega)) wc_X11_isOpen wn_RX11 (Or.inl wm_RX11_238) wi_X11_isOpen we_X11_isOpen (by decide +kernel) rfl (by decide) (by decide) (by simp [Value.category]) (by decide +kernel) rfl ?_
    refine VR.if_eq h (off := 8) (by decide +kernel) (tgt := 59) (by decide) (fun q => absurd q (by decide)) (fun _ => ?_)
    refine VR.blk h [(.aload_n 0, 1), (.iload_n 1, 1)] (by decide +kernel) (pc' := 56) (ls' := [some (.ref am), some (.int (nI (c9)))]) (st' := [.int (nI (c9)), .ref am]) rfl rfl (Nat.le_of_ble_eq_true rfl) ?_
    refine VR.call h (np := 1) (st := []) (r_begins hls (sn A1 17 c9 (tf A1 38 - 1)) c9 K hc (of_decide_eq_true ho).1 hlt (Nat.le_trans hlt (by omega)) hf hl hK9 (hB.sn (by omega)) (by omega)) wc_X11_begins wn_RX11 (Or.inl wm_RX11_254) wi_X11_begins we_X11_begins (by decide +kernel) rfl (by decide) (by decide) (by simp [Value.category]) (by decide +kernel) rfl ?_
    refine VR.blk h [(.aload_n 0, 1)] (by decide +kernel) (pc' := 60) (ls' := [some (.ref am), some (.int (nI (c9)))]) (st' := [.ref am]) rfl rfl (Nat.le_of_ble_eq_true rfl) ?_
    refine VR.getI h (j := 38) rfl (Or.inl wf_RX11_167) (by decide +kernel) (v := tf A1 38) (by first | rfl | exact (beg_keep (sn A1 17 c9 (tf A1 38 - 1)) c9).1 38 (by decide) (by decide)) ?_
    refine VR.blk h [(.iconst 1, 1)] (by decide +kernel) (pc' := 64) (ls' := [some (.ref am), some (.int (nI (c9)))]) (st' := [.int (nI (1)), .int (nI (tf A1 38))]) rfl rfl (Nat.le_of_ble_eq_true rfl) ?_
    refine VR.subN h (by decide +kernel) (Nat.le_of_ble_eq_true rfl) (by omega) ?_
    exact VR.iret h hA hQ hr rfl rfl rfl (by decide +kernel)

set_option maxRecDepth 100000 in
set_option maxHeartbeats 4000000 in
theorem r_letter {l : Launch} {D : va_G} {tc : Nat → ClassId} {am : Nat} {ad : Nat → Nat} (hls : l.stackTraces = false) (A : TS) (A1 : TS) (k9 t K : Nat) (hA1 : A1 = sf A 0 0) (hk : k9 < tf A1 53) (hl : tf A1 53 ≤ 250) (hB : NB K A1) (hK : K < 1999980000) (ht : t < 4) : RM l D tc am ad yX11_letter cX11_letter 3 (some .int) 3 [.ref am, .int (nI (k9)), .int (nI (t))] A (some (.int (nI (letV A1 k9 t)))) (A1) := by
  refine RM.of hls (by decide +kernel) (by simp [Value.category]) (Nat.le_of_ble_eq_true rfl) (fun A0 p e9 s m args below meth c S0 sz Q h hr hA hQ => ?_)
  refine VR.eqL (ls' := [some (.ref am), some (.int (nI (k9))), some (.int (nI (t)))]) rfl ?_
  refine VR.blk h [(.aload_n 0, 1), (.iconst 0, 1)] (by decide +kernel) (pc' := 2) (ls' := [some (.ref am), some (.int (nI (k9))), some (.int (nI (t)))]) (st' := [.int (nI (0)), .ref am]) rfl rfl (Nat.le_of_ble_eq_true rfl) ?_
  refine VR.putI h (j := 0) rfl rfl rfl (Or.inl wf_RX11_1) (by decide +kernel) ?_
  refine VR.eqA (A' := A1) hA1 ?_
  refine VR.blk h [(.aload_n 0, 1), (.aload_n 0, 1), (.iload_n 1, 1)] (by decide +kernel) (pc' := 8) (ls' := [some (.ref am), some (.int (nI (k9))), some (.int (nI (t)))]) (st' := [.int (nI (k9)), .ref am, .ref am]) rfl rfl (Nat.le_of_ble_eq_true rfl) ?_
  refine VR.call h (np := 1) (st := [.ref am]) (r_noLetter_ hls A1 (noIx_nI (by omega) (by omega))) wc_X11_noLetter wn_RX11 (Or.inl wm_RX11_257) wi_X11_noLetter we_X11_noLetter (by decide +kernel) rfl (by decide) (by decide) (by simp [Value.category]) (by decide +kernel) rfl ?_
  refine VR.blk h [(.iconst 1, 1)] (by decide +kernel) (pc' := 12) (ls' := [some (.ref am), some (.int (nI (k9))), some (.int (nI (t)))]) (st' := [.int (nI (1)), .int (bI (false)), .ref am]) rfl rfl (Nat.le_of_ble_eq_true rfl) ?_
  refine VR.call h (np := 2) (st := []) (r_throwsN hls A1 1) wc_X11_throwsIf wn_RX11 (Or.inl wm_RX11_247) wi_X11_throwsIf we_X11_throwsIf (by decide +kernel) rfl (by decide) (by decide) (by simp [Value.category]) (by decide +kernel) rfl ?_
  refine VR.if_eq h (off := 5) (by decide +kernel) (tgt := 20) (by decide) (fun _ => ?_) (fun q => absurd (by decide) q)
  refine VR.blk h [(.iload_n 2, 1)] (by decide +kernel) (pc' := 21) (ls' := [some (.ref am), some (.int (nI (k9))), some (.int (nI (t)))]) (st' := [.int (nI (t))]) rfl rfl (Nat.le_of_ble_eq_true rfl) ?_
  have tsw : t = 0 ∨ t = 1 ∨ t = 2 ∨ t = 3 := by omega
  rcases tsw with rfl | rfl | rfl | rfl
  · skip
    refine VR.tableIn h (dflt := 59) (hi := 3) (offs := #[31, 38, 45, 52]) (len := 31) (x := 0) (off := 31) (by decide) (by decide +kernel) (by decide) rfl (tgt := 52) (by decide) ?_
    refine VR.blk h [(.aload_n 0, 1)] (by decide +kernel) (pc' := 53) (ls' := [some (.ref am), some (.int (nI (k9))), some (.int (nI (0)))]) (st' := [.ref am]) rfl rfl (Nat.le_of_ble_eq_true rfl) ?_
    refine VR.getA h (j := 45) rfl (Or.inl wf_RX11_123) (by decide +kernel) ?_
    refine VR.blk h [(.iload_n 1, 1)] (by decide +kernel) (pc' := 57) (ls' := [some (.ref am), some (.int (nI (k9))), some (.int (nI (0)))]) (st' := [.int (nI (k9)), .ref (ad 45)]) rfl rfl (Nat.le_of_ble_eq_true rfl) ?_
    refine VR.iald h (j := 45) (i := k9) rfl rfl (by show _ < 250; omega) (by decide +kernel) (v := (nI (tn A1 45 k9))) (mval_1 rfl) ?_
    have nb18 := hB.2 45 k9
    exact VR.iret h hA hQ hr rfl rfl rfl (by decide +kernel)
  · skip
    refine VR.tableIn h (dflt := 59) (hi := 3) (offs := #[31, 38, 45, 52]) (len := 31) (x := 1) (off := 38) (by decide) (by decide +kernel) (by decide) rfl (tgt := 59) (by decide) ?_
    refine VR.blk h [(.aload_n 0, 1)] (by decide +kernel) (pc' := 60) (ls' := [some (.ref am), some (.int (nI (k9))), some (.int (nI (1)))]) (st' := [.ref am]) rfl rfl (Nat.le_of_ble_eq_true rfl) ?_
    refine VR.getA h (j := 46) rfl (Or.inl wf_RX11_126) (by decide +kernel) ?_
    refine VR.blk h [(.iload_n 1, 1)] (by decide +kernel) (pc' := 64) (ls' := [some (.ref am), some (.int (nI (k9))), some (.int (nI (1)))]) (st' := [.int (nI (k9)), .ref (ad 46)]) rfl rfl (Nat.le_of_ble_eq_true rfl) ?_
    refine VR.iald h (j := 46) (i := k9) rfl rfl (by show _ < 250; omega) (by decide +kernel) (v := (nI (tn A1 46 k9))) (mval_1 rfl) ?_
    have nb26 := hB.2 46 k9
    exact VR.iret h hA hQ hr rfl rfl rfl (by decide +kernel)
  · skip
    refine VR.tableIn h (dflt := 59) (hi := 3) (offs := #[31, 38, 45, 52]) (len := 31) (x := 2) (off := 45) (by decide) (by decide +kernel) (by decide) rfl (tgt := 66) (by decide) ?_
    refine VR.blk h [(.aload_n 0, 1)] (by decide +kernel) (pc' := 67) (ls' := [some (.ref am), some (.int (nI (k9))), some (.int (nI (2)))]) (st' := [.ref am]) rfl rfl (Nat.le_of_ble_eq_true rfl) ?_
    refine VR.getA h (j := 47) rfl (Or.inl wf_RX11_129) (by decide +kernel) ?_
    refine VR.blk h [(.iload_n 1, 1)] (by decide +kernel) (pc' := 71) (ls' := [some (.ref am), some (.int (nI (k9))), some (.int (nI (2)))]) (st' := [.int (nI (k9)), .ref (ad 47)]) rfl rfl (Nat.le_of_ble_eq_true rfl) ?_
    refine VR.iald h (j := 47) (i := k9) rfl rfl (by show _ < 250; omega) (by decide +kernel) (v := (nI (tn A1 47 k9))) (mval_1 rfl) ?_
    have nb34 := hB.2 47 k9
    exact VR.iret h hA hQ hr rfl rfl rfl (by decide +kernel)
  · skip
    refine VR.tableIn h (dflt := 59) (hi := 3) (offs := #[31, 38, 45, 52]) (len := 31) (x := 3) (off := 52) (by decide) (by decide +kernel) (by decide) rfl (tgt := 73) (by decide) ?_
    refine VR.blk h [(.aload_n 0, 1)] (by decide +kernel) (pc' := 74) (ls' := [some (.ref am), some (.int (nI (k9))), some (.int (nI (3)))]) (st' := [.ref am]) rfl rfl (Nat.le_of_ble_eq_true rfl) ?_
    refine VR.getA h (j := 49) rfl (Or.inl wf_RX11_135) (by decide +kernel) ?_
    refine VR.blk h [(.iload_n 1, 1)] (by decide +kernel) (pc' := 78) (ls' := [some (.ref am), some (.int (nI (k9))), some (.int (nI (3)))]) (st' := [.int (nI (k9)), .ref (ad 49)]) rfl rfl (Nat.le_of_ble_eq_true rfl) ?_
    refine VR.iald h (j := 49) (i := k9) rfl rfl (by show _ < 250; omega) (by decide +kernel) (v := (nI (tn A1 49 k9))) (mval_1 rfl) ?_
    have nb42 := hB.2 49 k9
    exact VR.iret h hA hQ hr rfl rfl rfl (by decide +kernel)

set_option maxRecDepth 100000 in
set_option maxHeartbeats 4000000 in
theorem r_letter_w {l : Launch} {D : va_G} {tc : Nat → ClassId} {am : Nat} {ad : Nat → Nat} (hls : l.stackTraces = false) (A : TS) (A1 : TS) (k9 K : Nat) (y : Int32) (hA1 : A1 = sf A 0 0) (hk : k9 < tf A1 53) (hl : tf A1 53 ≤ 250) (hB : NB K A1) (hK : K < 1999980000) (hy : noIx y 4 = true) : RM l D tc am ad yX11_letter cX11_letter 3 (some .int) 3 [.ref am, .int (nI (k9)), .int (y)] A (some (.int (nI 0))) (sf A1 0 2) := by
  refine RM.of hls (by decide +kernel) (by simp [Value.category]) (Nat.le_of_ble_eq_true rfl) (fun A0 p e9 s m args below meth c S0 sz Q h hr hA hQ => ?_)
  refine VR.eqL (ls' := [some (.ref am), some (.int (nI (k9))), some (.int (y))]) rfl ?_
  refine VR.blk h [(.aload_n 0, 1), (.iconst 0, 1)] (by decide +kernel) (pc' := 2) (ls' := [some (.ref am), some (.int (nI (k9))), some (.int (y))]) (st' := [.int (nI (0)), .ref am]) rfl rfl (Nat.le_of_ble_eq_true rfl) ?_
  refine VR.putI h (j := 0) rfl rfl rfl (Or.inl wf_RX11_1) (by decide +kernel) ?_
  refine VR.eqA (A' := A1) hA1 ?_
  refine VR.blk h [(.aload_n 0, 1), (.aload_n 0, 1), (.iload_n 1, 1)] (by decide +kernel) (pc' := 8) (ls' := [some (.ref am), some (.int (nI (k9))), some (.int (y))]) (st' := [.int (nI (k9)), .ref am, .ref am]) rfl rfl (Nat.le_of_ble_eq_true rfl) ?_
  refine VR.call h (np := 1) (st := [.ref am]) (r_noLetter_ hls A1 (noIx_nI (by omega) (by omega))) wc_X11_noLetter wn_RX11 (Or.inl wm_RX11_257) wi_X11_noLetter we_X11_noLetter (by decide +kernel) rfl (by decide) (by decide) (by simp [Value.category]) (by decide +kernel) rfl ?_
  refine VR.blk h [(.iconst 1, 1)] (by decide +kernel) (pc' := 12) (ls' := [some (.ref am), some (.int (nI (k9))), some (.int (y))]) (st' := [.int (nI (1)), .int (bI (false)), .ref am]) rfl rfl (Nat.le_of_ble_eq_true rfl) ?_
  refine VR.call h (np := 2) (st := []) (r_throwsN hls A1 1) wc_X11_throwsIf wn_RX11 (Or.inl wm_RX11_247) wi_X11_throwsIf we_X11_throwsIf (by decide +kernel) rfl (by decide) (by decide) (by simp [Value.category]) (by decide +kernel) rfl ?_
  refine VR.if_eq h (off := 5) (by decide +kernel) (tgt := 20) (by decide) (fun _ => ?_) (fun q => absurd (by decide) q)
  refine VR.blk h [(.iload_n 2, 1)] (by decide +kernel) (pc' := 21) (ls' := [some (.ref am), some (.int (nI (k9))), some (.int (y))]) (st' := [.int (y)]) rfl rfl (Nat.le_of_ble_eq_true rfl) ?_
  refine VR.tableOut h (dflt := 59) (hi := 3) (offs := #[31, 38, 45, 52]) (len := 31) (by decide +kernel) (noIx_out (n := 4) (by decide) hy) (tgt := 80) (by decide) ?_
  refine VR.blk h [(.aload_n 0, 1), (.iconst 2, 1)] (by decide +kernel) (pc' := 82) (ls' := [some (.ref am), some (.int (nI (k9))), some (.int (y))]) (st' := [.int (nI (2)), .ref am]) rfl rfl (Nat.le_of_ble_eq_true rfl) ?_
  refine VR.putI h (j := 0) rfl rfl rfl (Or.inl wf_RX11_1) (by decide +kernel) ?_
  refine VR.blk h [(.iconst 0, 1)] (by decide +kernel) (pc' := 86) (ls' := [some (.ref am), some (.int (nI (k9))), some (.int (y))]) (st' := [.int (nI (0))]) rfl rfl (Nat.le_of_ble_eq_true rfl) ?_
  exact VR.iret h hA hQ hr rfl rfl rfl (by decide +kernel)

set_option maxRecDepth 100000 in
set_option maxHeartbeats 4000000 in
theorem r_master {l : Launch} {D : va_G} {tc : Nat → ClassId} {am : Nat} {ad : Nat → Nat} (hls : l.stackTraces = false) (A : TS) (A1 : TS) (e t K : Nat) (hA1 : A1 = sf A 0 0) (he : e < tf A1 38) (he2 : tf A1 38 ≤ 12) (hB : NB K A1) (hK : K < 1999980000) (ht : t < 5) : RM l D tc am ad yX11_master cX11_master 3 (some .int) 3 [.ref am, .int (nI (e)), .int (nI (t))] A (some (.int (masV A1 e t))) (A1) := by
  refine RM.of hls (by decide +kernel) (by simp [Value.category]) (Nat.le_of_ble_eq_true rfl) (fun A0 p e9 s m args below meth c S0 sz Q h hr hA hQ => ?_)
  refine VR.eqL (ls' := [some (.ref am), some (.int (nI (e))), some (.int (nI (t)))]) rfl ?_
  refine VR.blk h [(.aload_n 0, 1), (.iconst 0, 1)] (by decide +kernel) (pc' := 2) (ls' := [some (.ref am), some (.int (nI (e))), some (.int (nI (t)))]) (st' := [.int (nI (0)), .ref am]) rfl rfl (Nat.le_of_ble_eq_true rfl) ?_
  refine VR.putI h (j := 0) rfl rfl rfl (Or.inl wf_RX11_1) (by decide +kernel) ?_
  refine VR.eqA (A' := A1) hA1 ?_
  refine VR.blk h [(.aload_n 0, 1), (.aload_n 0, 1), (.iload_n 1, 1)] (by decide +kernel) (pc' := 8) (ls' := [some (.ref am), some (.int (nI (e))), some (.int (nI (t)))]) (st' := [.int (nI (e)), .ref am, .ref am]) rfl rfl (Nat.le_of_ble_eq_true rfl) ?_
  refine VR.call h (np := 1) (st := [.ref am]) (r_noEpoch_ hls A1 (noIx_nI (by omega) (by omega))) wc_X11_noEpoch wn_RX11 (Or.inl wm_RX11_289) wi_X11_noEpoch we_X11_noEpoch (by decide +kernel) rfl (by decide) (by decide) (by simp [Value.category]) (by decide +kernel) rfl ?_
  refine VR.blk h [(.iconst 1, 1)] (by decide +kernel) (pc' := 12) (ls' := [some (.ref am), some (.int (nI (e))), some (.int (nI (t)))]) (st' := [.int (nI (1)), .int (bI (false)), .ref am]) rfl rfl (Nat.le_of_ble_eq_true rfl) ?_
  refine VR.call h (np := 2) (st := []) (r_throwsN hls A1 1) wc_X11_throwsIf wn_RX11 (Or.inl wm_RX11_247) wi_X11_throwsIf we_X11_throwsIf (by decide +kernel) rfl (by decide) (by decide) (by simp [Value.category]) (by decide +kernel) rfl ?_
  refine VR.if_eq h (off := 5) (by decide +kernel) (tgt := 20) (by decide) (fun _ => ?_) (fun q => absurd (by decide) q)
  refine VR.blk h [(.iload_n 2, 1)] (by decide +kernel) (pc' := 21) (ls' := [some (.ref am), some (.int (nI (e))), some (.int (nI (t)))]) (st' := [.int (nI (t))]) rfl rfl (Nat.le_of_ble_eq_true rfl) ?_
  have tsw : t = 0 ∨ t = 1 ∨ t = 2 ∨ t = 3 ∨ t = 4 := by omega
  rcases tsw with rfl | rfl | rfl | rfl | rfl
  · skip
    refine VR.tableIn h (dflt := 73) (hi := 4) (offs := #[35, 45, 52, 59, 66]) (len := 35) (x := 0) (off := 35) (by decide) (by decide +kernel) (by decide) rfl (tgt := 56) (by decide) ?_
    refine VR.blk h [(.aload_n 0, 1)] (by decide +kernel) (pc' := 57) (ls' := [some (.ref am), some (.int (nI (e))), some (.int (nI (0)))]) (st' := [.ref am]) rfl rfl (Nat.le_of_ble_eq_true rfl) ?_
    refine VR.getA h (j := 30) rfl (Or.inl wf_RX11_81) (by decide +kernel) ?_
    refine VR.blk h [(.iload_n 1, 1)] (by decide +kernel) (pc' := 61) (ls' := [some (.ref am), some (.int (nI (e))), some (.int (nI (0)))]) (st' := [.int (nI (e)), .ref (ad 30)]) rfl rfl (Nat.le_of_ble_eq_true rfl) ?_
    refine VR.bald h (j := 30) (i := e) rfl rfl (by show _ < 12; omega) (by decide +kernel) (v := (bI (tb A1 30 e))) (mval_4 rfl) ?_
    refine VR.callS h (np := 1) (st := []) (r_one hls A1 (tb A1 30 e)) wc_X11_one wn_RX11 (Or.inl wm_RX11_304) wt_X11_one (by decide +kernel) rfl (by decide) (by decide) (by simp [Value.category]) (by decide +kernel) rfl ?_
    exact VR.iret h hA hQ hr rfl rfl rfl (by decide +kernel)
  · skip
    refine VR.tableIn h (dflt := 73) (hi := 4) (offs := #[35, 45, 52, 59, 66]) (len := 35) (x := 1) (off := 45) (by decide) (by decide +kernel) (by decide) rfl (tgt := 66) (by decide) ?_
    refine VR.blk h [(.aload_n 0, 1)] (by decide +kernel) (pc' := 67) (ls' := [some (.ref am), some (.int (nI (e))), some (.int (nI (1)))]) (st' := [.ref am]) rfl rfl (Nat.le_of_ble_eq_true rfl) ?_
    refine VR.getA h (j := 26) rfl (Or.inl wf_RX11_69) (by decide +kernel) ?_
    refine VR.blk h [(.iload_n 1, 1)] (by decide +kernel) (pc' := 71) (ls' := [some (.ref am), some (.int (nI (e))), some (.int (nI (1)))]) (st' := [.int (nI (e)), .ref (ad 26)]) rfl rfl (Nat.le_of_ble_eq_true rfl) ?_
    refine VR.iald h (j := 26) (i := e) rfl rfl (by show _ < 12; omega) (by decide +kernel) (v := (nI (tn A1 26 e))) (mval_1 rfl) ?_
    have nb26 := hB.2 26 e
    exact VR.iret h hA hQ hr rfl rfl rfl (by decide +kernel)
  · skip
    refine VR.tableIn h (dflt := 73) (hi := 4) (offs := #[35, 45, 52, 59, 66]) (len := 35) (x := 2) (off := 52) (by decide) (by decide +kernel) (by decide) rfl (tgt := 73) (by decide) ?_
    refine VR.blk h [(.aload_n 0, 1)] (by decide +kernel) (pc' := 74) (ls' := [some (.ref am), some (.int (nI (e))), some (.int (nI (2)))]) (st' := [.ref am]) rfl rfl (Nat.le_of_ble_eq_true rfl) ?_
    refine VR.getA h (j := 28) rfl (Or.inl wf_RX11_75) (by decide +kernel) ?_
    refine VR.blk h [(.iload_n 1, 1)] (by decide +kernel) (pc' := 78) (ls' := [some (.ref am), some (.int (nI (e))), some (.int (nI (2)))]) (st' := [.int (nI (e)), .ref (ad 28)]) rfl rfl (Nat.le_of_ble_eq_true rfl) ?_
    refine VR.iald h (j := 28) (i := e) rfl rfl (by show _ < 12; omega) (by decide +kernel) (v := (nI (tn A1 28 e))) (mval_1 rfl) ?_
    have nb34 := hB.2 28 e
    exact VR.iret h hA hQ hr rfl rfl rfl (by decide +kernel)
  · skip
    refine VR.tableIn h (dflt := 73) (hi := 4) (offs := #[35, 45, 52, 59, 66]) (len := 35) (x := 3) (off := 59) (by decide) (by decide +kernel) (by decide) rfl (tgt := 80) (by decide) ?_
    refine VR.blk h [(.aload_n 0, 1)] (by decide +kernel) (pc' := 81) (ls' := [some (.ref am), some (.int (nI (e))), some (.int (nI (3)))]) (st' := [.ref am]) rfl rfl (Nat.le_of_ble_eq_true rfl) ?_
    refine VR.getA h (j := 37) rfl (Or.inl wf_RX11_102) (by decide +kernel) ?_
    refine VR.blk h [(.iload_n 1, 1)] (by decide +kernel) (pc' := 85) (ls' := [some (.ref am), some (.int (nI (e))), some (.int (nI (3)))]) (st' := [.int (nI (e)), .ref (ad 37)]) rfl rfl (Nat.le_of_ble_eq_true rfl) ?_
    refine VR.iald h (j := 37) (i := e) rfl rfl (by show _ < 12; omega) (by decide +kernel) (v := (nI (tn A1 37 e))) (mval_1 rfl) ?_
    have nb42 := hB.2 37 e
    exact VR.iret h hA hQ hr rfl rfl rfl (by decide +kernel)
  · skip
    refine VR.tableIn h (dflt := 73) (hi := 4) (offs := #[35, 45, 52, 59, 66]) (len := 35) (x := 4) (off := 66) (by decide) (by decide +kernel) (by decide) rfl (tgt := 87) (by decide) ?_
    refine VR.blk h [(.aload_n 0, 1)] (by decide +kernel) (pc' := 88) (ls' := [some (.ref am), some (.int (nI (e))), some (.int (nI (4)))]) (st' := [.ref am]) rfl rfl (Nat.le_of_ble_eq_true rfl) ?_
    refine VR.getA h (j := 27) rfl (Or.inl wf_RX11_72) (by decide +kernel) ?_
    refine VR.blk h [(.iload_n 1, 1)] (by decide +kernel) (pc' := 92) (ls' := [some (.ref am), some (.int (nI (e))), some (.int (nI (4)))]) (st' := [.int (nI (e)), .ref (ad 27)]) rfl rfl (Nat.le_of_ble_eq_true rfl) ?_
    refine VR.iald h (j := 27) (i := e) rfl rfl (by show _ < 12; omega) (by decide +kernel) (v := (nI (tn A1 27 e))) (mval_1 rfl) ?_
    have nb50 := hB.2 27 e
    exact VR.iret h hA hQ hr rfl rfl rfl (by decide +kernel)

set_option maxRecDepth 100000 in
set_option maxHeartbeats 4000000 in
theorem r_master_w {l : Launch} {D : va_G} {tc : Nat → ClassId} {am : Nat} {ad : Nat → Nat} (hls : l.stackTraces = false) (A : TS) (A1 : TS) (e K : Nat) (y : Int32) (hA1 : A1 = sf A 0 0) (he : e < tf A1 38) (he2 : tf A1 38 ≤ 12) (hB : NB K A1) (hK : K < 1999980000) (hy : noIx y 5 = true) : RM l D tc am ad yX11_master cX11_master 3 (some .int) 3 [.ref am, .int (nI (e)), .int (y)] A (some (.int (nI 0))) (sf A1 0 2) := by
  refine RM.of hls (by decide +kernel) (by simp [Value.category]) (Nat.le_of_ble_eq_true rfl) (fun A0 p e9 s m args below meth c S0 sz Q h hr hA hQ => ?_)
  refine VR.eqL (ls' := [some (.ref am), some (.int (nI (e))), some (.int (y))]) rfl ?_
  refine VR.blk h [(.aload_n 0, 1), (.iconst 0, 1)] (by decide +kernel) (pc' := 2) (ls' := [some (.ref am), some (.int (nI (e))), some (.int (y))]) (st' := [.int (nI (0)), .ref am]) rfl rfl (Nat.le_of_ble_eq_true rfl) ?_
  refine VR.putI h (j := 0) rfl rfl rfl (Or.inl wf_RX11_1) (by decide +kernel) ?_
  refine VR.eqA (A' := A1) hA1 ?_
  refine VR.blk h [(.aload_n 0, 1), (.aload_n 0, 1), (.iload_n 1, 1)] (by decide +kernel) (pc' := 8) (ls' := [some (.ref am), some (.int (nI (e))), some (.int (y))]) (st' := [.int (nI (e)), .ref am, .ref am]) rfl rfl (Nat.le_of_ble_eq_true rfl) ?_
  refine VR.call h (np := 1) (st := [.ref am]) (r_noEpoch_ hls A1 (noIx_nI (by omega) (by omega))) wc_X11_noEpoch wn_RX11 (Or.inl wm_RX11_289) wi_X11_noEpoch we_X11_noEpoch (by decide +kernel) rfl (by decide) (by decide) (by simp [Value.category]) (by decide +kernel) rfl ?_
  refine VR.blk h [(.iconst 1, 1)] (by decide +kernel) (pc' := 12) (ls' := [some (.ref am), some (.int (nI (e))), some (.int (y))]) (st' := [.int (nI (1)), .int (bI (false)), .ref am]) rfl rfl (Nat.le_of_ble_eq_true rfl) ?_
  refine VR.call h (np := 2) (st := []) (r_throwsN hls A1 1) wc_X11_throwsIf wn_RX11 (Or.inl wm_RX11_247) wi_X11_throwsIf we_X11_throwsIf (by decide +kernel) rfl (by decide) (by decide) (by simp [Value.category]) (by decide +kernel) rfl ?_
  refine VR.if_eq h (off := 5) (by decide +kernel) (tgt := 20) (by decide) (fun _ => ?_) (fun q => absurd (by decide) q)
  refine VR.blk h [(.iload_n 2, 1)] (by decide +kernel) (pc' := 21) (ls' := [some (.ref am), some (.int (nI (e))), some (.int (y))]) (st' := [.int (y)]) rfl rfl (Nat.le_of_ble_eq_true rfl) ?_
  refine VR.tableOut h (dflt := 73) (hi := 4) (offs := #[35, 45, 52, 59, 66]) (len := 35) (by decide +kernel) (noIx_out (n := 5) (by decide) hy) (tgt := 94) (by decide) ?_
  refine VR.blk h [(.aload_n 0, 1), (.iconst 2, 1)] (by decide +kernel) (pc' := 96) (ls' := [some (.ref am), some (.int (nI (e))), some (.int (y))]) (st' := [.int (nI (2)), .ref am]) rfl rfl (Nat.le_of_ble_eq_true rfl) ?_
  refine VR.putI h (j := 0) rfl rfl rfl (Or.inl wf_RX11_1) (by decide +kernel) ?_
  refine VR.blk h [(.iconst 0, 1)] (by decide +kernel) (pc' := 100) (ls' := [some (.ref am), some (.int (nI (e))), some (.int (y))]) (st' := [.int (nI (0))]) rfl rfl (Nat.le_of_ble_eq_true rfl) ?_
  exact VR.iret h hA hQ hr rfl rfl rfl (by decide +kernel)

set_option maxRecDepth 100000 in
set_option maxHeartbeats 4000000 in
theorem r_count {l : Launch} {D : va_G} {tc : Nat → ClassId} {am : Nat} {ad : Nat → Nat} (hls : l.stackTraces = false) (A : TS) (A1 : TS) (t : Nat) (hA1 : A1 = sf A 0 0) (ht : t < 9) : RM l D tc am ad yX11_count cX11_count 2 (some .int) 0 [.ref am, .int (nI (t))] A (some (.int (nI (cntV A1 t)))) (A1) := by
  refine RM.of hls (by decide +kernel) (by simp [Value.category]) (Nat.le_of_ble_eq_true rfl) (fun A0 p e9 s m args below meth c S0 sz Q h hr hA hQ => ?_)
  refine VR.eqL (ls' := [some (.ref am), some (.int (nI (t)))]) rfl ?_
  refine VR.blk h [(.aload_n 0, 1), (.iconst 0, 1)] (by decide +kernel) (pc' := 2) (ls' := [some (.ref am), some (.int (nI (t)))]) (st' := [.int (nI (0)), .ref am]) rfl rfl (Nat.le_of_ble_eq_true rfl) ?_
  refine VR.putI h (j := 0) rfl rfl rfl (Or.inl wf_RX11_1) (by decide +kernel) ?_
  refine VR.eqA (A' := A1) hA1 ?_
  refine VR.blk h [(.iload_n 1, 1)] (by decide +kernel) (pc' := 6) (ls' := [some (.ref am), some (.int (nI (t)))]) (st' := [.int (nI (t))]) rfl rfl (Nat.le_of_ble_eq_true rfl) ?_
  have tsw : t = 0 ∨ t = 1 ∨ t = 2 ∨ t = 3 ∨ t = 4 ∨ t = 5 ∨ t = 6 ∨ t = 7 ∨ t = 8 := by omega
  rcases tsw with rfl | rfl | rfl | rfl | rfl | rfl | rfl | rfl | rfl
  · skip
    refine VR.tableIn h (dflt := 95) (hi := 8) (offs := #[50, 55, 60, 65, 70, 75, 80, 85, 90]) (len := 50) (x := 0) (off := 50) (by decide) (by decide +kernel) (by decide) rfl (tgt := 56) (by decide) ?_
    refine VR.blk h [(.aload_n 0, 1)] (by decide +kernel) (pc' := 57) (ls' := [some (.ref am), some (.int (nI (0)))]) (st' := [.ref am]) rfl rfl (Nat.le_of_ble_eq_true rfl) ?_
    refine VR.getI h (j := 53) rfl (Or.inl wf_RX11_170) (by decide +kernel) (v := tf A1 53) rfl ?_
    exact VR.iret h hA hQ hr rfl rfl rfl (by decide +kernel)
  · skip
    refine VR.tableIn h (dflt := 95) (hi := 8) (offs := #[50, 55, 60, 65, 70, 75, 80, 85, 90]) (len := 50) (x := 1) (off := 55) (by decide) (by decide +kernel) (by decide) rfl (tgt := 61) (by decide) ?_
    refine VR.blk h [(.aload_n 0, 1)] (by decide +kernel) (pc' := 62) (ls' := [some (.ref am), some (.int (nI (1)))]) (st' := [.ref am]) rfl rfl (Nat.le_of_ble_eq_true rfl) ?_
    refine VR.getI h (j := 38) rfl (Or.inl wf_RX11_167) (by decide +kernel) (v := tf A1 38) rfl ?_
    exact VR.iret h hA hQ hr rfl rfl rfl (by decide +kernel)
  · skip
    refine VR.tableIn h (dflt := 95) (hi := 8) (offs := #[50, 55, 60, 65, 70, 75, 80, 85, 90]) (len := 50) (x := 2) (off := 60) (by decide) (by decide +kernel) (by decide) rfl (tgt := 66) (by decide) ?_
    refine VR.blk h [(.aload_n 0, 1)] (by decide +kernel) (pc' := 67) (ls' := [some (.ref am), some (.int (nI (2)))]) (st' := [.ref am]) rfl rfl (Nat.le_of_ble_eq_true rfl) ?_
    refine VR.getI h (j := 13) rfl (Or.inl wf_RX11_251) (by decide +kernel) (v := tf A1 13) rfl ?_
    exact VR.iret h hA hQ hr rfl rfl rfl (by decide +kernel)
  · skip
    refine VR.tableIn h (dflt := 95) (hi := 8) (offs := #[50, 55, 60, 65, 70, 75, 80, 85, 90]) (len := 50) (x := 3) (off := 65) (by decide) (by decide +kernel) (by decide) rfl (tgt := 71) (by decide) ?_
    refine VR.blk h [(.aload_n 0, 1)] (by decide +kernel) (pc' := 72) (ls' := [some (.ref am), some (.int (nI (3)))]) (st' := [.ref am]) rfl rfl (Nat.le_of_ble_eq_true rfl) ?_
    refine VR.getI h (j := 15) rfl (Or.inl wf_RX11_235) (by decide +kernel) (v := tf A1 15) rfl ?_
    exact VR.iret h hA hQ hr rfl rfl rfl (by decide +kernel)
  · skip
    refine VR.tableIn h (dflt := 95) (hi := 8) (offs := #[50, 55, 60, 65, 70, 75, 80, 85, 90]) (len := 50) (x := 4) (off := 70) (by decide) (by decide +kernel) (by decide) rfl (tgt := 76) (by decide) ?_
    refine VR.blk h [(.aload_n 0, 1)] (by decide +kernel) (pc' := 77) (ls' := [some (.ref am), some (.int (nI (4)))]) (st' := [.ref am]) rfl rfl (Nat.le_of_ble_eq_true rfl) ?_
    refine VR.getI h (j := 54) rfl (Or.inl wf_RX11_173) (by decide +kernel) (v := tf A1 54) rfl ?_
    exact VR.iret h hA hQ hr rfl rfl rfl (by decide +kernel)
  · skip
    refine VR.tableIn h (dflt := 95) (hi := 8) (offs := #[50, 55, 60, 65, 70, 75, 80, 85, 90]) (len := 50) (x := 5) (off := 75) (by decide) (by decide +kernel) (by decide) rfl (tgt := 81) (by decide) ?_
    refine VR.blk h [(.aload_n 0, 1)] (by decide +kernel) (pc' := 82) (ls' := [some (.ref am), some (.int (nI (5)))]) (st' := [.ref am]) rfl rfl (Nat.le_of_ble_eq_true rfl) ?_
    refine VR.getI h (j := 1) rfl (Or.inl wf_RX11_151) (by decide +kernel) (v := tf A1 1) rfl ?_
    exact VR.iret h hA hQ hr rfl rfl rfl (by decide +kernel)
  · skip
    refine VR.tableIn h (dflt := 95) (hi := 8) (offs := #[50, 55, 60, 65, 70, 75, 80, 85, 90]) (len := 50) (x := 6) (off := 80) (by decide) (by decide +kernel) (by decide) rfl (tgt := 86) (by decide) ?_
    refine VR.blk h [(.aload_n 0, 1)] (by decide +kernel) (pc' := 87) (ls' := [some (.ref am), some (.int (nI (6)))]) (st' := [.ref am]) rfl rfl (Nat.le_of_ble_eq_true rfl) ?_
    refine VR.getI h (j := 2) rfl (Or.inl wf_RX11_154) (by decide +kernel) (v := tf A1 2) rfl ?_
    exact VR.iret h hA hQ hr rfl rfl rfl (by decide +kernel)
  · skip
    refine VR.tableIn h (dflt := 95) (hi := 8) (offs := #[50, 55, 60, 65, 70, 75, 80, 85, 90]) (len := 50) (x := 7) (off := 85) (by decide) (by decide +kernel) (by decide) rfl (tgt := 91) (by decide) ?_
    refine VR.blk h [(.aload_n 0, 1)] (by decide +kernel) (pc' := 92) (ls' := [some (.ref am), some (.int (nI (7)))]) (st' := [.ref am]) rfl rfl (Nat.le_of_ble_eq_true rfl) ?_
    refine VR.getI h (j := 3) rfl (Or.inl wf_RX11_157) (by decide +kernel) (v := tf A1 3) rfl ?_
    exact VR.iret h hA hQ hr rfl rfl rfl (by decide +kernel)
  · skip
    refine VR.tableIn h (dflt := 95) (hi := 8) (offs := #[50, 55, 60, 65, 70, 75, 80, 85, 90]) (len := 50) (x := 8) (off := 90) (by decide) (by decide +kernel) (by decide) rfl (tgt := 96) (by decide) ?_
    refine VR.blk h [(.aload_n 0, 1)] (by decide +kernel) (pc' := 97) (ls' := [some (.ref am), some (.int (nI (8)))]) (st' := [.ref am]) rfl rfl (Nat.le_of_ble_eq_true rfl) ?_
    refine VR.getI h (j := 4) rfl (Or.inl wf_RX11_160) (by decide +kernel) (v := tf A1 4) rfl ?_
    exact VR.iret h hA hQ hr rfl rfl rfl (by decide +kernel)

set_option maxRecDepth 100000 in
set_option maxHeartbeats 4000000 in
theorem r_count_w {l : Launch} {D : va_G} {tc : Nat → ClassId} {am : Nat} {ad : Nat → Nat} (hls : l.stackTraces = false) (A : TS) (A1 : TS) (y : Int32) (hA1 : A1 = sf A 0 0) (hy : noIx y 9 = true) : RM l D tc am ad yX11_count cX11_count 2 (some .int) 0 [.ref am, .int (y)] A (some (.int (oI 0))) (A1) := by
  refine RM.of hls (by decide +kernel) (by simp [Value.category]) (Nat.le_of_ble_eq_true rfl) (fun A0 p e9 s m args below meth c S0 sz Q h hr hA hQ => ?_)
  refine VR.eqL (ls' := [some (.ref am), some (.int (y))]) rfl ?_
  refine VR.blk h [(.aload_n 0, 1), (.iconst 0, 1)] (by decide +kernel) (pc' := 2) (ls' := [some (.ref am), some (.int (y))]) (st' := [.int (nI (0)), .ref am]) rfl rfl (Nat.le_of_ble_eq_true rfl) ?_
  refine VR.putI h (j := 0) rfl rfl rfl (Or.inl wf_RX11_1) (by decide +kernel) ?_
  refine VR.eqA (A' := A1) hA1 ?_
  refine VR.blk h [(.iload_n 1, 1)] (by decide +kernel) (pc' := 6) (ls' := [some (.ref am), some (.int (y))]) (st' := [.int (y)]) rfl rfl (Nat.le_of_ble_eq_true rfl) ?_
  refine VR.tableOut h (dflt := 95) (hi := 8) (offs := #[50, 55, 60, 65, 70, 75, 80, 85, 90]) (len := 50) (by decide +kernel) (noIx_out (n := 9) (by decide) hy) (tgt := 101) (by decide) ?_
  refine VR.m1 h (by decide +kernel) (Nat.le_of_ble_eq_true rfl) ?_
  exact VR.iret h hA hQ hr rfl rfl rfl (by decide +kernel)
