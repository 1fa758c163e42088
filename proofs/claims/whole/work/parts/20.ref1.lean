set_option maxRecDepth 100000 in
set_option maxHeartbeats 4000000 in
theorem r_one {l : Launch} {D : va_G} {tc : Nat → ClassId} {am : Nat} {ad : Nat → Nat} (hls : l.stackTraces = false) (A : TS) (b : Bool)  : RM l D tc am ad yX11_one cX11_one 1 (some .int) 0 [.int (bI (b))] A (some (.int (nI (if b = true then 1 else 0)))) (A) := by
  refine RM.of hls (by decide +kernel) (by simp [Value.category]) (Nat.le_of_ble_eq_true rfl) (fun A0 p e9 s m args below meth c S0 sz Q h hr hA hQ => ?_)
  refine VR.eqL (ls' := [some (.int (bI (b)))]) rfl ?_
  refine VR.blk h [(.iload_n 0, 1)] (by decide +kernel) (pc' := 1) (ls' := [some (.int (bI (b)))]) (st' := [.int (bI (b))]) rfl rfl (Nat.le_of_ble_eq_true rfl) ?_
  refine VR.if_eq h (off := 7) (by decide +kernel) (tgt := 8) (by decide) (fun q => ?_) (fun q => ?_)
  · have q1_2 := (bI_0.mp q)
    clear q
    refine VR.blk h [(.iconst 0, 1)] (by decide +kernel) (pc' := 9) (ls' := [some (.int (bI (b)))]) (st' := [.int (nI (0))]) rfl rfl (Nat.le_of_ble_eq_true rfl) ?_
    exact VR.iret h hA hQ hr rfl (by simp [q1_2]) rfl (by decide +kernel)
  · have q1_2 := (bI_1 (fun z => q (bI_0.mpr z)))
    clear q
    refine VR.blk h [(.iconst 1, 1)] (by decide +kernel) (pc' := 5) (ls' := [some (.int (bI (b)))]) (st' := [.int (nI (1))]) rfl rfl (Nat.le_of_ble_eq_true rfl) ?_
    refine VR.goto h (off := 4) (tgt := 9) (by decide +kernel) (by decide) ?_
    exact VR.iret h hA hQ hr rfl (by simp [q1_2]) rfl (by decide +kernel)

set_option maxRecDepth 100000 in
set_option maxHeartbeats 4000000 in
theorem r_isUpdate {l : Launch} {D : va_G} {tc : Nat → ClassId} {am : Nat} {ad : Nat → Nat} (hls : l.stackTraces = false) (A : TS) (w : Nat) (hw : w < 2000000000) : RM l D tc am ad yX11_isUpdate cX11_isUpdate 1 (some .boolean) 0 [.int (nI (w))] A (some (.int (bI (decide (w ≠ 2))))) (A) := by
  refine RM.of hls (by decide +kernel) (by simp [Value.category]) (Nat.le_of_ble_eq_true rfl) (fun A0 p e9 s m args below meth c S0 sz Q h hr hA hQ => ?_)
  refine VR.eqL (ls' := [some (.int (nI (w)))]) rfl ?_
  refine VR.blk h [(.iload_n 0, 1), (.iconst 2, 1)] (by decide +kernel) (pc' := 2) (ls' := [some (.int (nI (w)))]) (st' := [.int (nI (2)), .int (nI (w))]) rfl rfl (Nat.le_of_ble_eq_true rfl) ?_
  refine VR.icmp_eq h (off := 7) (by decide +kernel) (tgt := 9) (by decide) (fun q => ?_) (fun q => ?_)
  · have q2_2 := ((nI_eq (by omega) (by omega)).mp q)
    clear q
    refine VR.blk h [(.iconst 0, 1)] (by decide +kernel) (pc' := 10) (ls' := [some (.int (nI (w)))]) (st' := [.int (nI (0))]) rfl rfl (Nat.le_of_ble_eq_true rfl) ?_
    refine VR.top (v' := .int (bI false)) (by rw [bI_f]) ?_
    exact VR.iret h hA hQ hr (bI_nar _) (by simp [q2_2]) rfl (by decide +kernel)
  · have q2_2 : ¬ _ := (fun z => q ((nI_eq (by omega) (by omega)).mpr z))
    clear q
    refine VR.blk h [(.iconst 1, 1)] (by decide +kernel) (pc' := 6) (ls' := [some (.int (nI (w)))]) (st' := [.int (nI (1))]) rfl rfl (Nat.le_of_ble_eq_true rfl) ?_
    refine VR.goto h (off := 4) (tgt := 10) (by decide +kernel) (by decide) ?_
    refine VR.top (v' := .int (bI true)) (by rw [bI_t]) ?_
    exact VR.iret h hA hQ hr (bI_nar _) (by simp [q2_2]) rfl (by decide +kernel)

set_option maxRecDepth 100000 in
set_option maxHeartbeats 4000000 in
theorem r_noClient {l : Launch} {D : va_G} {tc : Nat → ClassId} {am : Nat} {ad : Nat → Nat} (hls : l.stackTraces = false) (A : TS) (x : Int32)  : RM l D tc am ad yX11_noClient cX11_noClient 1 (some .boolean) 0 [.int (x)] A (some (.int (bI (noIx x 4)))) (A) := by
  refine RM.of hls (by decide +kernel) (by simp [Value.category]) (Nat.le_of_ble_eq_true rfl) (fun A0 p e9 s m args below meth c S0 sz Q h hr hA hQ => ?_)
  refine VR.eqL (ls' := [some (.int (x))]) rfl ?_
  refine VR.blk h [(.iload_n 0, 1)] (by decide +kernel) (pc' := 1) (ls' := [some (.int (x))]) (st' := [.int (x)]) rfl rfl (Nat.le_of_ble_eq_true rfl) ?_
  refine VR.if_lt h (off := 8) (by decide +kernel) (tgt := 9) (by decide) (fun q => ?_) (fun q => ?_)
  · have q1_2 := q
    clear q
    refine VR.blk h [(.iconst 1, 1)] (by decide +kernel) (pc' := 10) (ls' := [some (.int (x))]) (st' := [.int (nI (1))]) rfl rfl (Nat.le_of_ble_eq_true rfl) ?_
    refine VR.goto h (off := 4) (tgt := 14) (by decide +kernel) (by decide) ?_
    refine VR.top (v' := .int (bI true)) (by rw [bI_t]) ?_
    exact VR.iret h hA hQ hr (bI_nar _) (by rw [noIx_1 q1_2]) rfl (by decide +kernel)
  · have q1_2 := q
    clear q
    refine VR.blk h [(.iload_n 0, 1), (.iconst 4, 1)] (by decide +kernel) (pc' := 6) (ls' := [some (.int (x))]) (st' := [.int (nI (4)), .int (x)]) rfl rfl (Nat.le_of_ble_eq_true rfl) ?_
    refine VR.icmp_lt h (off := 7) (by decide +kernel) (tgt := 13) (by decide) (fun q => ?_) (fun q => ?_)
    · have q6_12 := q
      clear q
      refine VR.blk h [(.iconst 0, 1)] (by decide +kernel) (pc' := 14) (ls' := [some (.int (x))]) (st' := [.int (nI (0))]) rfl rfl (Nat.le_of_ble_eq_true rfl) ?_
      refine VR.top (v' := .int (bI false)) (by rw [bI_f]) ?_
      exact VR.iret h hA hQ hr (bI_nar _) (by rw [noIx_2 q1_2 q6_12]) rfl (by decide +kernel)
    · have q6_12 := q
      clear q
      refine VR.blk h [(.iconst 1, 1)] (by decide +kernel) (pc' := 10) (ls' := [some (.int (x))]) (st' := [.int (nI (1))]) rfl rfl (Nat.le_of_ble_eq_true rfl) ?_
      refine VR.goto h (off := 4) (tgt := 14) (by decide +kernel) (by decide) ?_
      refine VR.top (v' := .int (bI true)) (by rw [bI_t]) ?_
      exact VR.iret h hA hQ hr (bI_nar _) (by rw [noIx_3 q6_12]) rfl (by decide +kernel)

set_option maxRecDepth 100000 in
set_option maxHeartbeats 4000000 in
theorem r_noLetter {l : Launch} {D : va_G} {tc : Nat → ClassId} {am : Nat} {ad : Nat → Nat} (hls : l.stackTraces = false) (A : TS) (x : Int32)  : RM l D tc am ad yX11_noLetter cX11_noLetter 2 (some .boolean) 0 [.ref am, .int (x)] A (some (.int (bI (noIx x (tf A 53))))) (A) := by
  refine RM.of hls (by decide +kernel) (by simp [Value.category]) (Nat.le_of_ble_eq_true rfl) (fun A0 p e9 s m args below meth c S0 sz Q h hr hA hQ => ?_)
  refine VR.eqL (ls' := [some (.ref am), some (.int (x))]) rfl ?_
  refine VR.blk h [(.iload_n 1, 1)] (by decide +kernel) (pc' := 1) (ls' := [some (.ref am), some (.int (x))]) (st' := [.int (x)]) rfl rfl (Nat.le_of_ble_eq_true rfl) ?_
  refine VR.if_lt h (off := 11) (by decide +kernel) (tgt := 12) (by decide) (fun q => ?_) (fun q => ?_)
  · have q1_2 := q
    clear q
    refine VR.blk h [(.iconst 1, 1)] (by decide +kernel) (pc' := 13) (ls' := [some (.ref am), some (.int (x))]) (st' := [.int (nI (1))]) rfl rfl (Nat.le_of_ble_eq_true rfl) ?_
    refine VR.goto h (off := 4) (tgt := 17) (by decide +kernel) (by decide) ?_
    refine VR.top (v' := .int (bI true)) (by rw [bI_t]) ?_
    exact VR.iret h hA hQ hr (bI_nar _) (by rw [noIx_1 q1_2]) rfl (by decide +kernel)
  · have q1_2 := q
    clear q
    refine VR.blk h [(.iload_n 1, 1), (.aload_n 0, 1)] (by decide +kernel) (pc' := 6) (ls' := [some (.ref am), some (.int (x))]) (st' := [.ref am, .int (x)]) rfl rfl (Nat.le_of_ble_eq_true rfl) ?_
    refine VR.getI h (j := 53) rfl (Or.inl wf_RX11_170) (by decide +kernel) (v := tf A 53) rfl ?_
    refine VR.icmp_lt h (off := 7) (by decide +kernel) (tgt := 16) (by decide) (fun q => ?_) (fun q => ?_)
    · have q9_13 := q
      clear q
      refine VR.blk h [(.iconst 0, 1)] (by decide +kernel) (pc' := 17) (ls' := [some (.ref am), some (.int (x))]) (st' := [.int (nI (0))]) rfl rfl (Nat.le_of_ble_eq_true rfl) ?_
      refine VR.top (v' := .int (bI false)) (by rw [bI_f]) ?_
      exact VR.iret h hA hQ hr (bI_nar _) (by rw [noIx_2 q1_2 q9_13]) rfl (by decide +kernel)
    · have q9_13 := q
      clear q
      refine VR.blk h [(.iconst 1, 1)] (by decide +kernel) (pc' := 13) (ls' := [some (.ref am), some (.int (x))]) (st' := [.int (nI (1))]) rfl rfl (Nat.le_of_ble_eq_true rfl) ?_
      refine VR.goto h (off := 4) (tgt := 17) (by decide +kernel) (by decide) ?_
      refine VR.top (v' := .int (bI true)) (by rw [bI_t]) ?_
      exact VR.iret h hA hQ hr (bI_nar _) (by rw [noIx_3 q9_13]) rfl (by decide +kernel)

set_option maxRecDepth 100000 in
set_option maxHeartbeats 4000000 in
theorem r_noEpoch {l : Launch} {D : va_G} {tc : Nat → ClassId} {am : Nat} {ad : Nat → Nat} (hls : l.stackTraces = false) (A : TS) (x : Int32)  : RM l D tc am ad yX11_noEpoch cX11_noEpoch 2 (some .boolean) 0 [.ref am, .int (x)] A (some (.int (bI (noIx x (tf A 38))))) (A) := by
  refine RM.of hls (by decide +kernel) (by simp [Value.category]) (Nat.le_of_ble_eq_true rfl) (fun A0 p e9 s m args below meth c S0 sz Q h hr hA hQ => ?_)
  refine VR.eqL (ls' := [some (.ref am), some (.int (x))]) rfl ?_
  refine VR.blk h [(.iload_n 1, 1)] (by decide +kernel) (pc' := 1) (ls' := [some (.ref am), some (.int (x))]) (st' := [.int (x)]) rfl rfl (Nat.le_of_ble_eq_true rfl) ?_
  refine VR.if_lt h (off := 11) (by decide +kernel) (tgt := 12) (by decide) (fun q => ?_) (fun q => ?_)
  · have q1_2 := q
    clear q
    refine VR.blk h [(.iconst 1, 1)] (by decide +kernel) (pc' := 13) (ls' := [some (.ref am), some (.int (x))]) (st' := [.int (nI (1))]) rfl rfl (Nat.le_of_ble_eq_true rfl) ?_
    refine VR.goto h (off := 4) (tgt := 17) (by decide +kernel) (by decide) ?_
    refine VR.top (v' := .int (bI true)) (by rw [bI_t]) ?_
    exact VR.iret h hA hQ hr (bI_nar _) (by rw [noIx_1 q1_2]) rfl (by decide +kernel)
  · have q1_2 := q
    clear q
    refine VR.blk h [(.iload_n 1, 1), (.aload_n 0, 1)] (by decide +kernel) (pc' := 6) (ls' := [some (.ref am), some (.int (x))]) (st' := [.ref am, .int (x)]) rfl rfl (Nat.le_of_ble_eq_true rfl) ?_
    refine VR.getI h (j := 38) rfl (Or.inl wf_RX11_167) (by decide +kernel) (v := tf A 38) rfl ?_
    refine VR.icmp_lt h (off := 7) (by decide +kernel) (tgt := 16) (by decide) (fun q => ?_) (fun q => ?_)
    · have q9_13 := q
      clear q
      refine VR.blk h [(.iconst 0, 1)] (by decide +kernel) (pc' := 17) (ls' := [some (.ref am), some (.int (x))]) (st' := [.int (nI (0))]) rfl rfl (Nat.le_of_ble_eq_true rfl) ?_
      refine VR.top (v' := .int (bI false)) (by rw [bI_f]) ?_
      exact VR.iret h hA hQ hr (bI_nar _) (by rw [noIx_2 q1_2 q9_13]) rfl (by decide +kernel)
    · have q9_13 := q
      clear q
      refine VR.blk h [(.iconst 1, 1)] (by decide +kernel) (pc' := 13) (ls' := [some (.ref am), some (.int (x))]) (st' := [.int (nI (1))]) rfl rfl (Nat.le_of_ble_eq_true rfl) ?_
      refine VR.goto h (off := 4) (tgt := 17) (by decide +kernel) (by decide) ?_
      refine VR.top (v' := .int (bI true)) (by rw [bI_t]) ?_
      exact VR.iret h hA hQ hr (bI_nar _) (by rw [noIx_3 q9_13]) rfl (by decide +kernel)

set_option maxRecDepth 100000 in
set_option maxHeartbeats 4000000 in
theorem r_thrown {l : Launch} {D : va_G} {tc : Nat → ClassId} {am : Nat} {ad : Nat → Nat} (hls : l.stackTraces = false) (A : TS)   : RM l D tc am ad yX11_thrown cX11_thrown 1 (some .int) 0 [.ref am] A (some (.int (nI (tf A 0)))) (A) := by
  refine RM.of hls (by decide +kernel) (by simp [Value.category]) (Nat.le_of_ble_eq_true rfl) (fun A0 p e9 s m args below meth c S0 sz Q h hr hA hQ => ?_)
  refine VR.eqL (ls' := [some (.ref am)]) rfl ?_
  refine VR.blk h [(.aload_n 0, 1)] (by decide +kernel) (pc' := 1) (ls' := [some (.ref am)]) (st' := [.ref am]) rfl rfl (Nat.le_of_ble_eq_true rfl) ?_
  refine VR.getI h (j := 0) rfl (Or.inl wf_RX11_1) (by decide +kernel) (v := tf A 0) rfl ?_
  exact VR.iret h hA hQ hr rfl rfl rfl (by decide +kernel)

set_option maxRecDepth 100000 in
set_option maxHeartbeats 4000000 in
theorem r_throwsIf {l : Launch} {D : va_G} {tc : Nat → ClassId} {am : Nat} {ad : Nat → Nat} (hls : l.stackTraces = false) (A : TS) (b : Bool) (cd : Nat)  : RM l D tc am ad yX11_throwsIf cX11_throwsIf 3 (some .boolean) 0 [.ref am, .int (bI (b)), .int (nI (cd))] A (some (.int (bI b))) (if b = true then sf A 0 cd else A) := by
  refine RM.of hls (by decide +kernel) (by simp [Value.category]) (Nat.le_of_ble_eq_true rfl) (fun A0 p e9 s m args below meth c S0 sz Q h hr hA hQ => ?_)
  refine VR.eqL (ls' := [some (.ref am), some (.int (bI (b))), some (.int (nI (cd)))]) rfl ?_
  refine VR.blk h [(.iload_n 1, 1)] (by decide +kernel) (pc' := 1) (ls' := [some (.ref am), some (.int (bI (b))), some (.int (nI (cd)))]) (st' := [.int (bI (b))]) rfl rfl (Nat.le_of_ble_eq_true rfl) ?_
  refine VR.if_eq h (off := 8) (by decide +kernel) (tgt := 9) (by decide) (fun q => ?_) (fun q => ?_)
  · have q1_2 := (bI_0.mp q)
    clear q
    refine VR.blk h [(.iload_n 1, 1)] (by decide +kernel) (pc' := 10) (ls' := [some (.ref am), some (.int (bI (b))), some (.int (nI (cd)))]) (st' := [.int (bI (b))]) rfl rfl (Nat.le_of_ble_eq_true rfl) ?_
    exact VR.iret h hA hQ hr (bI_nar _) (by simp [q1_2]) (by simp [q1_2]) (by decide +kernel)
  · have q1_2 := (bI_1 (fun z => q (bI_0.mpr z)))
    clear q
    refine VR.blk h [(.aload_n 0, 1), (.iload_n 2, 1)] (by decide +kernel) (pc' := 6) (ls' := [some (.ref am), some (.int (bI (b))), some (.int (nI (cd)))]) (st' := [.int (nI (cd)), .ref am]) rfl rfl (Nat.le_of_ble_eq_true rfl) ?_
    refine VR.putI h (j := 0) rfl rfl rfl (Or.inl wf_RX11_1) (by decide +kernel) ?_
    refine VR.blk h [(.iload_n 1, 1)] (by decide +kernel) (pc' := 10) (ls' := [some (.ref am), some (.int (bI (b))), some (.int (nI (cd)))]) (st' := [.int (bI (b))]) rfl rfl (Nat.le_of_ble_eq_true rfl) ?_
    exact VR.iret h hA hQ hr (bI_nar _) (by simp [q1_2]) (by simp [q1_2]) (by decide +kernel)

set_option maxRecDepth 100000 in
set_option maxHeartbeats 4000000 in
theorem r_isOpen {l : Launch} {D : va_G} {tc : Nat → ClassId} {am : Nat} {ad : Nat → Nat} (hls : l.stackTraces = false) (A : TS) (c9 K : Nat) (hc : c9 < 4) (hl : tn A 16 c9 ≤ 600) (hB : NB K A) (hK : K < 2000000000) : RM l D tc am ad yX11_isOpen cX11_isOpen 2 (some .boolean) 0 [.ref am, .int (nI (c9))] A (some (.int (bI (opnF A c9)))) (A) := by
  refine RM.of hls (by decide +kernel) (by simp [Value.category]) (Nat.le_of_ble_eq_true rfl) (fun A0 p e9 s m args below meth c S0 sz Q h hr hA hQ => ?_)
  refine VR.eqL (ls' := [some (.ref am), some (.int (nI (c9)))]) rfl ?_
  refine VR.blk h [(.aload_n 0, 1)] (by decide +kernel) (pc' := 1) (ls' := [some (.ref am), some (.int (nI (c9)))]) (st' := [.ref am]) rfl rfl (Nat.le_of_ble_eq_true rfl) ?_
  refine VR.getA h (j := 16) rfl (Or.inl wf_RX11_38) (by decide +kernel) ?_
  refine VR.blk h [(.iload_n 1, 1)] (by decide +kernel) (pc' := 5) (ls' := [some (.ref am), some (.int (nI (c9)))]) (st' := [.int (nI (c9)), .ref (ad 16)]) rfl rfl (Nat.le_of_ble_eq_true rfl) ?_
  refine VR.iald h (j := 16) (i := c9) rfl rfl (by show _ < 4; omega) (by decide +kernel) (v := (oI (tn A 16 c9))) (mval_2 rfl) ?_
  have nb5 := hB.2 16 c9
  refine VR.if_lt h (off := 21) (by decide +kernel) (tgt := 27) (by decide) (fun q => ?_) (fun q => ?_)
  · have q6_6 := ((oI_neg (by omega)).mp q)
    clear q
    refine VR.blk h [(.iconst 0, 1)] (by decide +kernel) (pc' := 28) (ls' := [some (.ref am), some (.int (nI (c9)))]) (st' := [.int (nI (0))]) rfl rfl (Nat.le_of_ble_eq_true rfl) ?_
    refine VR.top (v' := .int (bI false)) (by rw [bI_f]) ?_
    exact VR.iret h hA hQ hr (bI_nar _) (by simp [opnF, q6_6]) rfl (by decide +kernel)
  · have q6_6 : ¬ _ := (fun z => q ((oI_neg (by omega)).mpr z))
    clear q
    refine VR.blk h [(.aload_n 0, 1)] (by decide +kernel) (pc' := 10) (ls' := [some (.ref am), some (.int (nI (c9)))]) (st' := [.ref am]) rfl rfl (Nat.le_of_ble_eq_true rfl) ?_
    refine VR.getA h (j := 11) rfl (Or.inl wf_RX11_32) (by decide +kernel) ?_
    refine VR.blk h [(.aload_n 0, 1)] (by decide +kernel) (pc' := 14) (ls' := [some (.ref am), some (.int (nI (c9)))]) (st' := [.ref am, .ref (ad 11)]) rfl rfl (Nat.le_of_ble_eq_true rfl) ?_
    refine VR.getA h (j := 16) rfl (Or.inl wf_RX11_38) (by decide +kernel) ?_
    refine VR.blk h [(.iload_n 1, 1)] (by decide +kernel) (pc' := 18) (ls' := [some (.ref am), some (.int (nI (c9)))]) (st' := [.int (nI (c9)), .ref (ad 16), .ref (ad 11)]) rfl rfl (Nat.le_of_ble_eq_true rfl) ?_
    refine VR.iald h (j := 16) (i := c9) rfl rfl (by show _ < 4; omega) (by decide +kernel) (v := (oI (tn A 16 c9))) (mval_2 rfl) ?_
    have nb20 := hB.2 16 c9
    refine VR.top (v' := .int (nI ((tn A 16 c9) - 1))) (oI_pos (by omega)) ?_
    refine VR.iald h (j := 11) (i := (tn A 16 c9) - 1) rfl rfl (by show _ < 600; omega) (by decide +kernel) (v := (oI (tn A 11 ((tn A 16 c9) - 1)))) (mval_2 rfl) ?_
    have nb23 := hB.2 11 ((tn A 16 c9) - 1)
    refine VR.if_ge h (off := 7) (by decide +kernel) (tgt := 27) (by decide) (fun q => ?_) (fun q => ?_)
    · have q20_24 := ((oI_nn (by omega)).mp q)
      clear q
      refine VR.blk h [(.iconst 0, 1)] (by decide +kernel) (pc' := 28) (ls' := [some (.ref am), some (.int (nI (c9)))]) (st' := [.int (nI (0))]) rfl rfl (Nat.le_of_ble_eq_true rfl) ?_
      refine VR.top (v' := .int (bI false)) (by rw [bI_f]) ?_
      exact VR.iret h hA hQ hr (bI_nar _) (by simp [opnF, q6_6, q20_24]) rfl (by decide +kernel)
    · have q20_24 := (Decidable.of_not_not (fun z => q ((oI_nn (by omega)).mpr z)))
      clear q
      refine VR.blk h [(.iconst 1, 1)] (by decide +kernel) (pc' := 24) (ls' := [some (.ref am), some (.int (nI (c9)))]) (st' := [.int (nI (1))]) rfl rfl (Nat.le_of_ble_eq_true rfl) ?_
      refine VR.goto h (off := 4) (tgt := 28) (by decide +kernel) (by decide) ?_
      refine VR.top (v' := .int (bI true)) (by rw [bI_t]) ?_
      exact VR.iret h hA hQ hr (bI_nar _) (by simp [opnF, q6_6, q20_24]) rfl (by decide +kernel)

set_option maxRecDepth 100000 in
set_option maxHeartbeats 4000000 in
theorem r_place {l : Launch} {D : va_G} {tc : Nat → ClassId} {am : Nat} {ad : Nat → Nat} (hls : l.stackTraces = false) (A : TS) (e op K : Nat) (he : e < 12) (hm : tn A 26 e ≤ 600) (hB : NB K A) (hK : K < 2000000000) (ho : op < 2000000000) : RM l D tc am ad yX11_place cX11_place 5 (some .int) 0 [.ref am, .int (nI (e)), .int (nI (op))] A (some (.int (oI (placeF A e op)))) (A) := by
  refine RM.of hls (by decide +kernel) (by simp [Value.category]) (Nat.le_of_ble_eq_true rfl) (fun A0 p e9 s m args below meth c S0 sz Q h hr hA hQ => ?_)
  have hb26 := hB.2 26 e
  refine VR.eqL (ls' := [some (.ref am), some (.int (nI (e))), some (.int (nI (op))), none, none]) rfl ?_
  refine VR.m1 h (by decide +kernel) (Nat.le_of_ble_eq_true rfl) ?_
  refine VR.blk h [(.istore_n 3, 1), (.iconst 0, 1), (.istore 4, 2)] (by decide +kernel) (pc' := 5) (ls' := [some (.ref am), some (.int (nI (e))), some (.int (nI (op))), some (.int (oI (0))), some (.int (nI (0)))]) (st' := []) rfl rfl (Nat.le_of_ble_eq_true rfl) ?_
  have loop5 : ∀ (t k : Nat), tn A 26 e - k = t → k ≤ tn A 26 e → VR l D tc A0 p e9 (rmd 0 0 0) s m args below meth c 5 Q am ad A 5 [some (.ref am), some (.int (nI (e))), some (.int (nI (op))), some (.int (oI (plF A e op k))), some (.int (nI (k)))] [] := by
    intro t; induction t using Nat.strongRecOn with
    | _ t ih5 =>
      intro k ht5 hk5
      refine VR.blk h [(.iload 4, 2), (.aload_n 0, 1)] (by decide +kernel) (pc' := 8) (ls' := [some (.ref am), some (.int (nI (e))), some (.int (nI (op))), some (.int (oI (plF A e op k))), some (.int (nI (k)))]) (st' := [.ref am, .int (nI (k))]) rfl rfl (Nat.le_of_ble_eq_true rfl) ?_
      refine VR.getA h (j := 26) rfl (Or.inl wf_RX11_69) (by decide +kernel) ?_
      refine VR.blk h [(.iload_n 1, 1)] (by decide +kernel) (pc' := 12) (ls' := [some (.ref am), some (.int (nI (e))), some (.int (nI (op))), some (.int (oI (plF A e op k))), some (.int (nI (k)))]) (st' := [.int (nI (e)), .ref (ad 26), .int (nI (k))]) rfl rfl (Nat.le_of_ble_eq_true rfl) ?_
      refine VR.iald h (j := 26) (i := e) rfl rfl (by show _ < 12; omega) (by decide +kernel) (v := (nI (tn A 26 e))) (mval_1 rfl) ?_
      have nb12 := hB.2 26 e
      refine VR.icmp_ge h (off := 29) (by decide +kernel) (tgt := 42) (by decide) (fun q => ?_) (fun q => ?_)
      · have q13_13 := ((nI_leI (by omega) (by omega)).mp q)
        clear q
        refine VR.blk h [(.iload_n 3, 1)] (by decide +kernel) (pc' := 43) (ls' := [some (.ref am), some (.int (nI (e))), some (.int (nI (op))), some (.int (oI (plF A e op k))), some (.int (nI (k)))]) (st' := [.int (oI (plF A e op k))]) rfl rfl (Nat.le_of_ble_eq_true rfl) ?_
        exact VR.iret h hA hQ hr rfl (by rw [placeF, show k = tn A 26 e by omega]) rfl (by decide +kernel)
      · have q13_13 : ¬ _ := (fun z => q ((nI_leI (by omega) (by omega)).mpr z))
        clear q
        refine VR.blk h [(.aload_n 0, 1)] (by decide +kernel) (pc' := 17) (ls' := [some (.ref am), some (.int (nI (e))), some (.int (nI (op))), some (.int (oI (plF A e op k))), some (.int (nI (k)))]) (st' := [.ref am]) rfl rfl (Nat.le_of_ble_eq_true rfl) ?_
        refine VR.getA h (j := 22) rfl (Or.inl wf_RX11_57) (by decide +kernel) ?_
        refine VR.blk h [(.sipush 600, 3), (.iload_n 1, 1)] (by decide +kernel) (pc' := 24) (ls' := [some (.ref am), some (.int (nI (e))), some (.int (nI (op))), some (.int (oI (plF A e op k))), some (.int (nI (k)))]) (st' := [.int (nI (e)), .int (nI (600)), .ref (ad 22)]) rfl rfl (Nat.le_of_ble_eq_true rfl) ?_
        refine VR.mulN h (by decide +kernel) (Nat.le_of_ble_eq_true rfl) ?_
        refine VR.blk h [(.iload 4, 2)] (by decide +kernel) (pc' := 27) (ls' := [some (.ref am), some (.int (nI (e))), some (.int (nI (op))), some (.int (oI (plF A e op k))), some (.int (nI (k)))]) (st' := [.int (nI (k)), .int (nI (600 * e)), .ref (ad 22)]) rfl rfl (Nat.le_of_ble_eq_true rfl) ?_
        refine VR.addN h (by decide +kernel) (Nat.le_of_ble_eq_true rfl) ?_
        refine VR.iald h (j := 22) (i := (600 * e) + k) rfl rfl (by show _ < 7200; omega) (by decide +kernel) (v := (nI (tn A 22 ((600 * e) + k)))) (mval_1 rfl) ?_
        have nb27 := hB.2 22 ((600 * e) + k)
        refine VR.blk h [(.iload_n 2, 1)] (by decide +kernel) (pc' := 30) (ls' := [some (.ref am), some (.int (nI (e))), some (.int (nI (op))), some (.int (oI (plF A e op k))), some (.int (nI (k)))]) (st' := [.int (nI (op)), .int (nI (tn A 22 ((600 * e) + k)))]) rfl rfl (Nat.le_of_ble_eq_true rfl) ?_
        refine VR.icmp_ne h (off := 6) (by decide +kernel) (tgt := 36) (by decide) (fun q => ?_) (fun q => ?_)
        · have q30_29 : ¬ _ := (fun z => q ((nI_eq (by omega) (by omega)).mpr z))
          clear q
          refine VR.incN h (x := k) (i := 4) (by decide +kernel) rfl (Nat.le_of_ble_eq_true rfl) ?_
          refine VR.eqL (ls' := [some (.ref am), some (.int (nI (e))), some (.int (nI (op))), some (.int (oI (plF A e op k))), some (.int (nI (k + 1)))]) rfl ?_
          refine VR.goto h (off := -34) (tgt := 5) (by decide +kernel) (by decide) ?_
          refine VR.eqL (ls' := [some (.ref am), some (.int (nI (e))), some (.int (nI (op))), some (.int (oI (plF A e op ((k + 1))))), some (.int (nI ((k + 1))))]) (by simp only [plF, q13_13, q30_29, if_true, if_false, oI_s]) ?_
          exact ih5 (tn A 26 e - (k + 1)) (by omega) (k + 1) rfl (by omega)
        · have q30_29 := ((nI_eq (by omega) (by omega)).mp q)
          clear q
          refine VR.blk h [(.iload 4, 2), (.istore_n 3, 1)] (by decide +kernel) (pc' := 36) (ls' := [some (.ref am), some (.int (nI (e))), some (.int (nI (op))), some (.int (nI (k))), some (.int (nI (k)))]) (st' := []) rfl rfl (Nat.le_of_ble_eq_true rfl) ?_
          refine VR.incN h (x := k) (i := 4) (by decide +kernel) rfl (Nat.le_of_ble_eq_true rfl) ?_
          refine VR.eqL (ls' := [some (.ref am), some (.int (nI (e))), some (.int (nI (op))), some (.int (nI (k))), some (.int (nI (k + 1)))]) rfl ?_
          refine VR.goto h (off := -34) (tgt := 5) (by decide +kernel) (by decide) ?_
          refine VR.eqL (ls' := [some (.ref am), some (.int (nI (e))), some (.int (nI (op))), some (.int (oI (plF A e op ((k + 1))))), some (.int (nI ((k + 1))))]) (by simp only [plF, q13_13, q30_29, if_true, if_false, oI_s]) ?_
          exact ih5 (tn A 26 e - (k + 1)) (by omega) (k + 1) rfl (by omega)
  refine VR.eqL (ls' := [some (.ref am), some (.int (nI (e))), some (.int (nI (op))), some (.int (oI (plF A e op 0))), some (.int (nI (0)))]) rfl ?_
  exact loop5 _ 0 rfl (Nat.zero_le _)

set_option maxRecDepth 100000 in
set_option maxHeartbeats 4000000 in
theorem r_valueAt {l : Launch} {D : va_G} {tc : Nat → ClassId} {am : Nat} {ad : Nat → Nat} (hls : l.stackTraces = false) (A : TS) (e n key K : Nat) (he : e < 12) (hn : n ≤ 600) (hlo : ∀ k, k < n → tn A 22 (600 * e + k) < 600) (hB : NB K A) (hK : K < 2000000000) (hk : key < 2000000000) : RM l D tc am ad yX11_valueAt cX11_valueAt 7 (some .int) 0 [.ref am, .int (nI (e)), .int (nI (n)), .int (nI (key))] A (some (.int (vaF A e key n))) (A) := by
  refine RM.of hls (by decide +kernel) (by simp [Value.category]) (Nat.le_of_ble_eq_true rfl) (fun A0 p e9 s m args below meth c S0 sz Q h hr hA hQ => ?_)
  refine VR.eqL (ls' := [some (.ref am), some (.int (nI (e))), some (.int (nI (n))), some (.int (nI (key))), none, none, none]) rfl ?_
  refine VR.blk h [(.iconst 0, 1), (.istore 4, 2), (.iconst 0, 1), (.istore 5, 2)] (by decide +kernel) (pc' := 6) (ls' := [some (.ref am), some (.int (nI (e))), some (.int (nI (n))), some (.int (nI (key))), some (.int (nI (0))), some (.int (nI (0))), none]) (st' := []) rfl rfl (Nat.le_of_ble_eq_true rfl) ?_
  have loop6 : ∀ (t k : Nat), n - k = t → k ≤ n → VR l D tc A0 p e9 (rmd 0 0 0) s m args below meth c 7 Q am ad A 6 [some (.ref am), some (.int (nI (e))), some (.int (nI (n))), some (.int (nI (key))), some (.int (vaF A e key k)), some (.int (nI (k))), none] [] := by
    intro t; induction t using Nat.strongRecOn with
    | _ t ih6 =>
      intro k ht6 hk6
      refine VR.blk h [(.iload 5, 2), (.iload_n 2, 1)] (by decide +kernel) (pc' := 9) (ls' := [some (.ref am), some (.int (nI (e))), some (.int (nI (n))), some (.int (nI (key))), some (.int (vaF A e key k)), some (.int (nI (k))), none]) (st' := [.int (nI (n)), .int (nI (k))]) rfl rfl (Nat.le_of_ble_eq_true rfl) ?_
      refine VR.icmp_ge h (off := 67) (by decide +kernel) (tgt := 76) (by decide) (fun q => ?_) (fun q => ?_)
      · have q9_7 := ((nI_leI (by omega) (by omega)).mp q)
        clear q
        refine VR.blk h [(.iload 4, 2)] (by decide +kernel) (pc' := 78) (ls' := [some (.ref am), some (.int (nI (e))), some (.int (nI (n))), some (.int (nI (key))), some (.int (vaF A e key k)), some (.int (nI (k))), none]) (st' := [.int (vaF A e key k)]) rfl rfl (Nat.le_of_ble_eq_true rfl) ?_
        exact VR.iret h hA hQ hr rfl (by rw [show k = n by omega]) rfl (by decide +kernel)
      · have q9_7 : ¬ _ := (fun z => q ((nI_leI (by omega) (by omega)).mpr z))
        clear q
        refine VR.blk h [(.aload_n 0, 1)] (by decide +kernel) (pc' := 13) (ls' := [some (.ref am), some (.int (nI (e))), some (.int (nI (n))), some (.int (nI (key))), some (.int (vaF A e key k)), some (.int (nI (k))), none]) (st' := [.ref am]) rfl rfl (Nat.le_of_ble_eq_true rfl) ?_
        refine VR.getA h (j := 22) rfl (Or.inl wf_RX11_57) (by decide +kernel) ?_
        refine VR.blk h [(.sipush 600, 3), (.iload_n 1, 1)] (by decide +kernel) (pc' := 20) (ls' := [some (.ref am), some (.int (nI (e))), some (.int (nI (n))), some (.int (nI (key))), some (.int (vaF A e key k)), some (.int (nI (k))), none]) (st' := [.int (nI (e)), .int (nI (600)), .ref (ad 22)]) rfl rfl (Nat.le_of_ble_eq_true rfl) ?_
        refine VR.mulN h (by decide +kernel) (Nat.le_of_ble_eq_true rfl) ?_
        refine VR.blk h [(.iload 5, 2)] (by decide +kernel) (pc' := 23) (ls' := [some (.ref am), some (.int (nI (e))), some (.int (nI (n))), some (.int (nI (key))), some (.int (vaF A e key k)), some (.int (nI (k))), none]) (st' := [.int (nI (k)), .int (nI (600 * e)), .ref (ad 22)]) rfl rfl (Nat.le_of_ble_eq_true rfl) ?_
        refine VR.addN h (by decide +kernel) (Nat.le_of_ble_eq_true rfl) ?_
        have hop := hlo k (by omega)
        refine VR.iald h (j := 22) (i := (600 * e) + k) rfl rfl (by show _ < 7200; omega) (by decide +kernel) (v := (nI (tn A 22 ((600 * e) + k)))) (mval_1 rfl) ?_
        have nb22 := hB.2 22 ((600 * e) + k)
        refine VR.blk h [(.istore 6, 2), (.aload_n 0, 1)] (by decide +kernel) (pc' := 28) (ls' := [some (.ref am), some (.int (nI (e))), some (.int (nI (n))), some (.int (nI (key))), some (.int (vaF A e key k)), some (.int (nI (k))), some (.int (nI (tn A 22 ((600 * e) + k))))]) (st' := [.ref am]) rfl rfl (Nat.le_of_ble_eq_true rfl) ?_
        refine VR.getA h (j := 8) rfl (Or.inl wf_RX11_23) (by decide +kernel) ?_
        refine VR.blk h [(.iload 6, 2)] (by decide +kernel) (pc' := 33) (ls' := [some (.ref am), some (.int (nI (e))), some (.int (nI (n))), some (.int (nI (key))), some (.int (vaF A e key k)), some (.int (nI (k))), some (.int (nI (tn A 22 ((600 * e) + k))))]) (st' := [.int (nI (tn A 22 ((600 * e) + k))), .ref (ad 8)]) rfl rfl (Nat.le_of_ble_eq_true rfl) ?_
        refine VR.iald h (j := 8) (i := tn A 22 ((600 * e) + k)) rfl rfl (by show _ < 600; omega) (by decide +kernel) (v := (nI (tn A 8 (tn A 22 ((600 * e) + k))))) (mval_1 rfl) ?_
        have nb27 := hB.2 8 (tn A 22 ((600 * e) + k))
        refine VR.blk h [(.iload_n 3, 1)] (by decide +kernel) (pc' := 35) (ls' := [some (.ref am), some (.int (nI (e))), some (.int (nI (n))), some (.int (nI (key))), some (.int (vaF A e key k)), some (.int (nI (k))), some (.int (nI (tn A 22 ((600 * e) + k))))]) (st' := [.int (nI (key)), .int (nI (tn A 8 (tn A 22 ((600 * e) + k))))]) rfl rfl (Nat.le_of_ble_eq_true rfl) ?_
        refine VR.icmp_ne h (off := 35) (by decide +kernel) (tgt := 70) (by decide) (fun q => ?_) (fun q => ?_)
        · have q35_29 : ¬ _ := (fun z => q ((nI_eq (by omega) (by omega)).mpr z))
          clear q
          refine VR.incN h (x := k) (i := 5) (by decide +kernel) rfl (Nat.le_of_ble_eq_true rfl) ?_
          refine VR.eqL (ls' := [some (.ref am), some (.int (nI (e))), some (.int (nI (n))), some (.int (nI (key))), some (.int (vaF A e key k)), some (.int (nI (k + 1))), some (.int (nI (tn A 22 ((600 * e) + k))))]) rfl ?_
          refine VR.goto h (off := -67) (tgt := 6) (by decide +kernel) (by decide) ?_
          refine VR.drop 6 (ls' := [some (.ref am), some (.int (nI (e))), some (.int (nI (n))), some (.int (nI (key))), some (.int (vaF A e key k)), some (.int (nI (k + 1))), none]) rfl ?_
          refine VR.eqL (ls' := [some (.ref am), some (.int (nI (e))), some (.int (nI (n))), some (.int (nI (key))), some (.int (vaF A e key ((k + 1)))), some (.int (nI ((k + 1)))), none]) (by simp only [vaF, q9_7, q35_29, if_true, if_false]) ?_
          exact ih6 (n - (k + 1)) (by omega) (k + 1) rfl (by omega)
        · have q35_29 := ((nI_eq (by omega) (by omega)).mp q)
          clear q
          refine VR.blk h [(.aload_n 0, 1)] (by decide +kernel) (pc' := 39) (ls' := [some (.ref am), some (.int (nI (e))), some (.int (nI (n))), some (.int (nI (key))), some (.int (vaF A e key k)), some (.int (nI (k))), some (.int (nI (tn A 22 ((600 * e) + k))))]) (st' := [.ref am]) rfl rfl (Nat.le_of_ble_eq_true rfl) ?_
          refine VR.getA h (j := 7) rfl (Or.inl wf_RX11_20) (by decide +kernel) ?_
          refine VR.blk h [(.iload 6, 2)] (by decide +kernel) (pc' := 44) (ls' := [some (.ref am), some (.int (nI (e))), some (.int (nI (n))), some (.int (nI (key))), some (.int (vaF A e key k)), some (.int (nI (k))), some (.int (nI (tn A 22 ((600 * e) + k))))]) (st' := [.int (nI (tn A 22 ((600 * e) + k))), .ref (ad 7)]) rfl rfl (Nat.le_of_ble_eq_true rfl) ?_
          refine VR.iald h (j := 7) (i := tn A 22 ((600 * e) + k)) rfl rfl (by show _ < 600; omega) (by decide +kernel) (v := (nI (tn A 7 (tn A 22 ((600 * e) + k))))) (mval_1 rfl) ?_
          have nb44 := hB.2 7 (tn A 22 ((600 * e) + k))
          refine VR.if_ne h (off := 13) (by decide +kernel) (tgt := 58) (by decide) (fun q => ?_) (fun q => ?_)
          · have q45_45 : ¬ _ := (fun z => q ((nI_z_eq (by omega)).mpr z))
            clear q
            refine VR.blk h [(.iload 4, 2), (.aload_n 0, 1)] (by decide +kernel) (pc' := 61) (ls' := [some (.ref am), some (.int (nI (e))), some (.int (nI (n))), some (.int (nI (key))), some (.int (vaF A e key k)), some (.int (nI (k))), some (.int (nI (tn A 22 ((600 * e) + k))))]) (st' := [.ref am, .int (vaF A e key k)]) rfl rfl (Nat.le_of_ble_eq_true rfl) ?_
            refine VR.getA h (j := 9) rfl (Or.inl wf_RX11_26) (by decide +kernel) ?_
            refine VR.blk h [(.iload 6, 2)] (by decide +kernel) (pc' := 66) (ls' := [some (.ref am), some (.int (nI (e))), some (.int (nI (n))), some (.int (nI (key))), some (.int (vaF A e key k)), some (.int (nI (k))), some (.int (nI (tn A 22 ((600 * e) + k))))]) (st' := [.int (nI (tn A 22 ((600 * e) + k))), .ref (ad 9), .int (vaF A e key k)]) rfl rfl (Nat.le_of_ble_eq_true rfl) ?_
            refine VR.iald h (j := 9) (i := tn A 22 ((600 * e) + k)) rfl rfl (by show _ < 600; omega) (by decide +kernel) (v := (tr A 9 (tn A 22 ((600 * e) + k)))) (mval_3 rfl) ?_
            refine VR.blk h [(.iadd, 1)] (by decide +kernel) (pc' := 68) (ls' := [some (.ref am), some (.int (nI (e))), some (.int (nI (n))), some (.int (nI (key))), some (.int (vaF A e key k)), some (.int (nI (k))), some (.int (nI (tn A 22 ((600 * e) + k))))]) (st' := [.int ((vaF A e key k) + (tr A 9 (tn A 22 ((600 * e) + k))))]) rfl rfl (Nat.le_of_ble_eq_true rfl) ?_
            refine VR.blk h [(.istore 4, 2)] (by decide +kernel) (pc' := 70) (ls' := [some (.ref am), some (.int (nI (e))), some (.int (nI (n))), some (.int (nI (key))), some (.int ((vaF A e key k) + (tr A 9 (tn A 22 ((600 * e) + k))))), some (.int (nI (k))), some (.int (nI (tn A 22 ((600 * e) + k))))]) (st' := []) rfl rfl (Nat.le_of_ble_eq_true rfl) ?_
            refine VR.incN h (x := k) (i := 5) (by decide +kernel) rfl (Nat.le_of_ble_eq_true rfl) ?_
            refine VR.eqL (ls' := [some (.ref am), some (.int (nI (e))), some (.int (nI (n))), some (.int (nI (key))), some (.int ((vaF A e key k) + (tr A 9 (tn A 22 ((600 * e) + k))))), some (.int (nI (k + 1))), some (.int (nI (tn A 22 ((600 * e) + k))))]) rfl ?_
            refine VR.goto h (off := -67) (tgt := 6) (by decide +kernel) (by decide) ?_
            refine VR.drop 6 (ls' := [some (.ref am), some (.int (nI (e))), some (.int (nI (n))), some (.int (nI (key))), some (.int ((vaF A e key k) + (tr A 9 (tn A 22 ((600 * e) + k))))), some (.int (nI (k + 1))), none]) rfl ?_
            refine VR.eqL (ls' := [some (.ref am), some (.int (nI (e))), some (.int (nI (n))), some (.int (nI (key))), some (.int (vaF A e key ((k + 1)))), some (.int (nI ((k + 1)))), none]) (by simp only [vaF, q9_7, q35_29, q45_45, if_true, if_false]) ?_
            exact ih6 (n - (k + 1)) (by omega) (k + 1) rfl (by omega)
          · have q45_45 := ((nI_z_eq (by omega)).mp q)
            clear q
            refine VR.blk h [(.aload_n 0, 1)] (by decide +kernel) (pc' := 49) (ls' := [some (.ref am), some (.int (nI (e))), some (.int (nI (n))), some (.int (nI (key))), some (.int (vaF A e key k)), some (.int (nI (k))), some (.int (nI (tn A 22 ((600 * e) + k))))]) (st' := [.ref am]) rfl rfl (Nat.le_of_ble_eq_true rfl) ?_
            refine VR.getA h (j := 9) rfl (Or.inl wf_RX11_26) (by decide +kernel) ?_
            refine VR.blk h [(.iload 6, 2)] (by decide +kernel) (pc' := 54) (ls' := [some (.ref am), some (.int (nI (e))), some (.int (nI (n))), some (.int (nI (key))), some (.int (vaF A e key k)), some (.int (nI (k))), some (.int (nI (tn A 22 ((600 * e) + k))))]) (st' := [.int (nI (tn A 22 ((600 * e) + k))), .ref (ad 9)]) rfl rfl (Nat.le_of_ble_eq_true rfl) ?_
            refine VR.iald h (j := 9) (i := tn A 22 ((600 * e) + k)) rfl rfl (by show _ < 600; omega) (by decide +kernel) (v := (tr A 9 (tn A 22 ((600 * e) + k)))) (mval_3 rfl) ?_
            refine VR.goto h (off := 13) (tgt := 68) (by decide +kernel) (by decide) ?_
            refine VR.blk h [(.istore 4, 2)] (by decide +kernel) (pc' := 70) (ls' := [some (.ref am), some (.int (nI (e))), some (.int (nI (n))), some (.int (nI (key))), some (.int (tr A 9 (tn A 22 ((600 * e) + k)))), some (.int (nI (k))), some (.int (nI (tn A 22 ((600 * e) + k))))]) (st' := []) rfl rfl (Nat.le_of_ble_eq_true rfl) ?_
            refine VR.incN h (x := k) (i := 5) (by decide +kernel) rfl (Nat.le_of_ble_eq_true rfl) ?_
            refine VR.eqL (ls' := [some (.ref am), some (.int (nI (e))), some (.int (nI (n))), some (.int (nI (key))), some (.int (tr A 9 (tn A 22 ((600 * e) + k)))), some (.int (nI (k + 1))), some (.int (nI (tn A 22 ((600 * e) + k))))]) rfl ?_
            refine VR.goto h (off := -67) (tgt := 6) (by decide +kernel) (by decide) ?_
            refine VR.drop 6 (ls' := [some (.ref am), some (.int (nI (e))), some (.int (nI (n))), some (.int (nI (key))), some (.int (tr A 9 (tn A 22 ((600 * e) + k)))), some (.int (nI (k + 1))), none]) rfl ?_
            refine VR.eqL (ls' := [some (.ref am), some (.int (nI (e))), some (.int (nI (n))), some (.int (nI (key))), some (.int (vaF A e key ((k + 1)))), some (.int (nI ((k + 1)))), none]) (by simp only [vaF, q9_7, q35_29, q45_45, if_true, if_false]) ?_
            exact ih6 (n - (k + 1)) (by omega) (k + 1) rfl (by omega)
  refine VR.eqL (ls' := [some (.ref am), some (.int (nI (e))), some (.int (nI (n))), some (.int (nI (key))), some (.int (vaF A e key 0)), some (.int (nI (0))), none]) rfl ?_
  exact loop6 _ 0 rfl (Nat.zero_le _)

set_option maxRecDepth 100000 in
set_option maxHeartbeats 4000000 in
theorem r_isKeyBehind {l : Launch} {D : va_G} {tc : Nat → ClassId} {am : Nat} {ad : Nat → Nat} (hls : l.stackTraces = false) (A : TS) (e key K : Nat) (he : e < 12) (hm : tn A 26 e ≤ 600) (hs : tn A 28 e ≤ tn A 26 e) (hlo : ∀ k, k < tn A 26 e → tn A 22 (600 * e + k) < 600) (hB : NB K A) (hK : K < 2000000000) (hk : key < 2000000000) : RM l D tc am ad yX11_isKeyBehind cX11_isKeyBehind 5 (some .boolean) 0 [.ref am, .int (nI (e)), .int (nI (key))] A (some (.int (bI (kbF A e key (tn A 28 e) (tn A 26 e))))) (A) := by
  refine RM.of hls (by decide +kernel) (by simp [Value.category]) (Nat.le_of_ble_eq_true rfl) (fun A0 p e9 s m args below meth c S0 sz Q h hr hA hQ => ?_)
  refine VR.eqL (ls' := [some (.ref am), some (.int (nI (e))), some (.int (nI (key))), none, none]) rfl ?_
  refine VR.blk h [(.iconst 0, 1), (.istore_n 3, 1), (.aload_n 0, 1)] (by decide +kernel) (pc' := 3) (ls' := [some (.ref am), some (.int (nI (e))), some (.int (nI (key))), some (.int (nI (0))), none]) (st' := [.ref am]) rfl rfl (Nat.le_of_ble_eq_true rfl) ?_
  refine VR.getA h (j := 28) rfl (Or.inl wf_RX11_75) (by decide +kernel) ?_
  refine VR.blk h [(.iload_n 1, 1)] (by decide +kernel) (pc' := 7) (ls' := [some (.ref am), some (.int (nI (e))), some (.int (nI (key))), some (.int (nI (0))), none]) (st' := [.int (nI (e)), .ref (ad 28)]) rfl rfl (Nat.le_of_ble_eq_true rfl) ?_
  refine VR.iald h (j := 28) (i := e) rfl rfl (by show _ < 12; omega) (by decide +kernel) (v := (nI (tn A 28 e))) (mval_1 rfl) ?_
  have nb5 := hB.2 28 e
  refine VR.blk h [(.istore 4, 2)] (by decide +kernel) (pc' := 10) (ls' := [some (.ref am), some (.int (nI (e))), some (.int (nI (key))), some (.int (nI (0))), some (.int (nI (tn A 28 e)))]) (st' := []) rfl rfl (Nat.le_of_ble_eq_true rfl) ?_
  have loop10 : ∀ (t k : Nat), tn A 26 e - k = t → k ≤ tn A 26 e → tn A 28 e ≤ k → VR l D tc A0 p e9 (rmd 0 0 0) s m args below meth c 5 Q am ad A 10 [some (.ref am), some (.int (nI (e))), some (.int (nI (key))), some (.int (bI (kbF A e key (tn A 28 e) k))), some (.int (nI (k)))] [] := by
    intro t; induction t using Nat.strongRecOn with
    | _ t ih10 =>
      intro k ht10 hk10 hlo10
      refine VR.blk h [(.iload 4, 2), (.aload_n 0, 1)] (by decide +kernel) (pc' := 13) (ls' := [some (.ref am), some (.int (nI (e))), some (.int (nI (key))), some (.int (bI (kbF A e key (tn A 28 e) k))), some (.int (nI (k)))]) (st' := [.ref am, .int (nI (k))]) rfl rfl (Nat.le_of_ble_eq_true rfl) ?_
      refine VR.getA h (j := 26) rfl (Or.inl wf_RX11_69) (by decide +kernel) ?_
      refine VR.blk h [(.iload_n 1, 1)] (by decide +kernel) (pc' := 17) (ls' := [some (.ref am), some (.int (nI (e))), some (.int (nI (key))), some (.int (bI (kbF A e key (tn A 28 e) k))), some (.int (nI (k)))]) (st' := [.int (nI (e)), .ref (ad 26), .int (nI (k))]) rfl rfl (Nat.le_of_ble_eq_true rfl) ?_
      refine VR.iald h (j := 26) (i := e) rfl rfl (by show _ < 12; omega) (by decide +kernel) (v := (nI (tn A 26 e))) (mval_1 rfl) ?_
      have nb15 := hB.2 26 e
      refine VR.icmp_ge h (off := 41) (by decide +kernel) (tgt := 59) (by decide) (fun q => ?_) (fun q => ?_)
      · have q18_16 := ((nI_leI (by omega) (by omega)).mp q)
        clear q
        refine VR.blk h [(.iload_n 3, 1)] (by decide +kernel) (pc' := 60) (ls' := [some (.ref am), some (.int (nI (e))), some (.int (nI (key))), some (.int (bI (kbF A e key (tn A 28 e) k))), some (.int (nI (k)))]) (st' := [.int (bI (kbF A e key (tn A 28 e) k))]) rfl rfl (Nat.le_of_ble_eq_true rfl) ?_
        exact VR.iret h hA hQ hr (bI_nar _) (by rw [show k = tn A 26 e by omega]) rfl (by decide +kernel)
      · have q18_16 : ¬ _ := (fun z => q ((nI_leI (by omega) (by omega)).mpr z))
        clear q
        have join52 : ∀ bb52 : Bool, bb52 = (kbF A e key (tn A 28 e) k || decide (tn A 8 (tn A 22 (600 * e + k)) = key)) → VR l D tc A0 p e9 (rmd 0 0 0) s m args below meth c 5 Q am ad A 52 [some (.ref am), some (.int (nI (e))), some (.int (nI (key))), some (.int (bI (kbF A e key (tn A 28 e) k))), some (.int (nI (k)))] [.int (bI (bb52))] := by
          intro bb52 hb52; subst hb52
          refine VR.blk h [(.istore_n 3, 1)] (by decide +kernel) (pc' := 53) (ls' := [some (.ref am), some (.int (nI (e))), some (.int (nI (key))), some (.int (bI ((kbF A e key (tn A 28 e) k || decide (tn A 8 (tn A 22 (600 * e + k)) = key))))), some (.int (nI (k)))]) (st' := []) rfl rfl (Nat.le_of_ble_eq_true rfl) ?_
          refine VR.incN h (x := k) (i := 4) (by decide +kernel) rfl (Nat.le_of_ble_eq_true rfl) ?_
          refine VR.eqL (ls' := [some (.ref am), some (.int (nI (e))), some (.int (nI (key))), some (.int (bI ((kbF A e key (tn A 28 e) k || decide (tn A 8 (tn A 22 (600 * e + k)) = key))))), some (.int (nI (k + 1)))]) rfl ?_
          refine VR.goto h (off := -46) (tgt := 10) (by decide +kernel) (by decide) ?_
          refine VR.eqL (ls' := [some (.ref am), some (.int (nI (e))), some (.int (nI (key))), some (.int (bI (kbF A e key (tn A 28 e) ((k + 1))))), some (.int (nI ((k + 1))))]) (by simp only [kbF, hlo10, decide_true, Bool.true_and]) ?_
          exact ih10 (tn A 26 e - (k + 1)) (by omega) (k + 1) rfl (by omega) (by omega)
        refine VR.blk h [(.iload_n 3, 1)] (by decide +kernel) (pc' := 22) (ls' := [some (.ref am), some (.int (nI (e))), some (.int (nI (key))), some (.int (bI (kbF A e key (tn A 28 e) k))), some (.int (nI (k)))]) (st' := [.int (bI (kbF A e key (tn A 28 e) k))]) rfl rfl (Nat.le_of_ble_eq_true rfl) ?_
        refine VR.if_ne h (off := 25) (by decide +kernel) (tgt := 47) (by decide) (fun q => ?_) (fun q => ?_)
        · have q22_32 := (bI_1 (fun z => q (bI_0.mpr z)))
          clear q
          refine VR.blk h [(.iconst 1, 1)] (by decide +kernel) (pc' := 48) (ls' := [some (.ref am), some (.int (nI (e))), some (.int (nI (key))), some (.int (bI (kbF A e key (tn A 28 e) k))), some (.int (nI (k)))]) (st' := [.int (nI (1))]) rfl rfl (Nat.le_of_ble_eq_true rfl) ?_
          refine VR.goto h (off := 4) (tgt := 52) (by decide +kernel) (by decide) ?_
          refine VR.top (v' := .int (bI true)) (by rw [bI_t]) ?_
          exact join52 _ (by first | (simp [q18_16, q22_32]; done) | (simp [q18_16, q22_32]; omega))
        · have q22_32 := (bI_0.mp q)
          clear q
          refine VR.blk h [(.aload_n 0, 1)] (by decide +kernel) (pc' := 26) (ls' := [some (.ref am), some (.int (nI (e))), some (.int (nI (key))), some (.int (bI (kbF A e key (tn A 28 e) k))), some (.int (nI (k)))]) (st' := [.ref am]) rfl rfl (Nat.le_of_ble_eq_true rfl) ?_
          refine VR.getA h (j := 8) rfl (Or.inl wf_RX11_23) (by decide +kernel) ?_
          refine VR.blk h [(.aload_n 0, 1)] (by decide +kernel) (pc' := 30) (ls' := [some (.ref am), some (.int (nI (e))), some (.int (nI (key))), some (.int (bI (kbF A e key (tn A 28 e) k))), some (.int (nI (k)))]) (st' := [.ref am, .ref (ad 8)]) rfl rfl (Nat.le_of_ble_eq_true rfl) ?_
          refine VR.getA h (j := 22) rfl (Or.inl wf_RX11_57) (by decide +kernel) ?_
          refine VR.blk h [(.sipush 600, 3), (.iload_n 1, 1)] (by decide +kernel) (pc' := 37) (ls' := [some (.ref am), some (.int (nI (e))), some (.int (nI (key))), some (.int (bI (kbF A e key (tn A 28 e) k))), some (.int (nI (k)))]) (st' := [.int (nI (e)), .int (nI (600)), .ref (ad 22), .ref (ad 8)]) rfl rfl (Nat.le_of_ble_eq_true rfl) ?_
          refine VR.mulN h (by decide +kernel) (Nat.le_of_ble_eq_true rfl) ?_
          refine VR.blk h [(.iload 4, 2)] (by decide +kernel) (pc' := 40) (ls' := [some (.ref am), some (.int (nI (e))), some (.int (nI (key))), some (.int (bI (kbF A e key (tn A 28 e) k))), some (.int (nI (k)))]) (st' := [.int (nI (k)), .int (nI (600 * e)), .ref (ad 22), .ref (ad 8)]) rfl rfl (Nat.le_of_ble_eq_true rfl) ?_
          refine VR.addN h (by decide +kernel) (Nat.le_of_ble_eq_true rfl) ?_
          have hop := hlo k (by omega)
          refine VR.iald h (j := 22) (i := (600 * e) + k) rfl rfl (by show _ < 7200; omega) (by decide +kernel) (v := (nI (tn A 22 ((600 * e) + k)))) (mval_1 rfl) ?_
          have nb51 := hB.2 22 ((600 * e) + k)
          refine VR.iald h (j := 8) (i := tn A 22 ((600 * e) + k)) rfl rfl (by show _ < 600; omega) (by decide +kernel) (v := (nI (tn A 8 (tn A 22 ((600 * e) + k))))) (mval_1 rfl) ?_
          have nb53 := hB.2 8 (tn A 22 ((600 * e) + k))
          refine VR.blk h [(.iload_n 2, 1)] (by decide +kernel) (pc' := 44) (ls' := [some (.ref am), some (.int (nI (e))), some (.int (nI (key))), some (.int (bI (kbF A e key (tn A 28 e) k))), some (.int (nI (k)))]) (st' := [.int (nI (key)), .int (nI (tn A 8 (tn A 22 ((600 * e) + k))))]) rfl rfl (Nat.le_of_ble_eq_true rfl) ?_
          refine VR.icmp_ne h (off := 7) (by decide +kernel) (tgt := 51) (by decide) (fun q => ?_) (fun q => ?_)
          · have q44_55 : ¬ _ := (fun z => q ((nI_eq (by omega) (by omega)).mpr z))
            clear q
            refine VR.blk h [(.iconst 0, 1)] (by decide +kernel) (pc' := 52) (ls' := [some (.ref am), some (.int (nI (e))), some (.int (nI (key))), some (.int (bI (kbF A e key (tn A 28 e) k))), some (.int (nI (k)))]) (st' := [.int (nI (0))]) rfl rfl (Nat.le_of_ble_eq_true rfl) ?_
            refine VR.top (v' := .int (bI false)) (by rw [bI_f]) ?_
            exact join52 _ (by first | (simp [q18_16, q22_32, q44_55]; done) | (simp [q18_16, q22_32, q44_55]; omega))
          · have q44_55 := ((nI_eq (by omega) (by omega)).mp q)
            clear q
            refine VR.blk h [(.iconst 1, 1)] (by decide +kernel) (pc' := 48) (ls' := [some (.ref am), some (.int (nI (e))), some (.int (nI (key))), some (.int (bI (kbF A e key (tn A 28 e) k))), some (.int (nI (k)))]) (st' := [.int (nI (1))]) rfl rfl (Nat.le_of_ble_eq_true rfl) ?_
            refine VR.goto h (off := 4) (tgt := 52) (by decide +kernel) (by decide) ?_
            refine VR.top (v' := .int (bI true)) (by rw [bI_t]) ?_
            exact join52 _ (by first | (simp [q18_16, q22_32, q44_55]; done) | (simp [q18_16, q22_32, q44_55]; omega))
  refine VR.eqL (ls' := [some (.ref am), some (.int (nI (e))), some (.int (nI (key))), some (.int (bI (kbF A e key (tn A 28 e) ((tn A 28 e))))), some (.int (nI ((tn A 28 e))))]) (by rw [kbF_0 A e key _ _ (Nat.le_refl _), bI_f]) ?_
  exact loop10 _ ((tn A 28 e)) rfl hs (Nat.le_refl _)

set_option maxRecDepth 100000 in
set_option maxHeartbeats 4000000 in
theorem r_hasGreater {l : Launch} {D : va_G} {tc : Nat → ClassId} {am : Nat} {ad : Nat → Nat} (hls : l.stackTraces = false) (A : TS) (e op K : Nat) (he : e < 12) (hm : tn A 26 e ≤ 600) (hlo : ∀ k, k < tn A 26 e → tn A 22 (600 * e + k) < 600) (hB : NB K A) (hK : K < 2000000000) (ho : op < 600) : RM l D tc am ad yX11_hasGreater cX11_hasGreater 5 (some .boolean) 0 [.ref am, .int (nI (e)), .int (nI (op))] A (some (.int (bI (hgF A e op (tn A 26 e))))) (A) := by
  refine RM.of hls (by decide +kernel) (by simp [Value.category]) (Nat.le_of_ble_eq_true rfl) (fun A0 p e9 s m args below meth c S0 sz Q h hr hA hQ => ?_)
  refine VR.eqL (ls' := [some (.ref am), some (.int (nI (e))), some (.int (nI (op))), none, none]) rfl ?_
  refine VR.blk h [(.iconst 0, 1), (.istore_n 3, 1), (.iconst 0, 1), (.istore 4, 2)] (by decide +kernel) (pc' := 5) (ls' := [some (.ref am), some (.int (nI (e))), some (.int (nI (op))), some (.int (nI (0))), some (.int (nI (0)))]) (st' := []) rfl rfl (Nat.le_of_ble_eq_true rfl) ?_
  have loop5 : ∀ (t k : Nat), tn A 26 e - k = t → k ≤ tn A 26 e → VR l D tc A0 p e9 (rmd 0 0 0) s m args below meth c 5 Q am ad A 5 [some (.ref am), some (.int (nI (e))), some (.int (nI (op))), some (.int (bI (hgF A e op k))), some (.int (nI (k)))] [] := by
    intro t; induction t using Nat.strongRecOn with
    | _ t ih5 =>
      intro k ht5 hk5
      refine VR.blk h [(.iload 4, 2), (.aload_n 0, 1)] (by decide +kernel) (pc' := 8) (ls' := [some (.ref am), some (.int (nI (e))), some (.int (nI (op))), some (.int (bI (hgF A e op k))), some (.int (nI (k)))]) (st' := [.ref am, .int (nI (k))]) rfl rfl (Nat.le_of_ble_eq_true rfl) ?_
      refine VR.getA h (j := 26) rfl (Or.inl wf_RX11_69) (by decide +kernel) ?_
      refine VR.blk h [(.iload_n 1, 1)] (by decide +kernel) (pc' := 12) (ls' := [some (.ref am), some (.int (nI (e))), some (.int (nI (op))), some (.int (bI (hgF A e op k))), some (.int (nI (k)))]) (st' := [.int (nI (e)), .ref (ad 26), .int (nI (k))]) rfl rfl (Nat.le_of_ble_eq_true rfl) ?_
      refine VR.iald h (j := 26) (i := e) rfl rfl (by show _ < 12; omega) (by decide +kernel) (v := (nI (tn A 26 e))) (mval_1 rfl) ?_
      have nb10 := hB.2 26 e
      refine VR.icmp_ge h (off := 73) (by decide +kernel) (tgt := 86) (by decide) (fun q => ?_) (fun q => ?_)
      · have q13_11 := ((nI_leI (by omega) (by omega)).mp q)
        clear q
        refine VR.blk h [(.iload_n 3, 1)] (by decide +kernel) (pc' := 87) (ls' := [some (.ref am), some (.int (nI (e))), some (.int (nI (op))), some (.int (bI (hgF A e op k))), some (.int (nI (k)))]) (st' := [.int (bI (hgF A e op k))]) rfl rfl (Nat.le_of_ble_eq_true rfl) ?_
        exact VR.iret h hA hQ hr (bI_nar _) (by rw [show k = tn A 26 e by omega]) rfl (by decide +kernel)
      · have q13_11 : ¬ _ := (fun z => q ((nI_leI (by omega) (by omega)).mpr z))
        clear q
        have join79 : ∀ bb79 : Bool, bb79 = (hgF A e op k || (decide (tn A 5 (tn A 22 (600 * e + k)) = tn A 5 op) && decide (tn A 6 op < tn A 6 (tn A 22 (600 * e + k))))) → VR l D tc A0 p e9 (rmd 0 0 0) s m args below meth c 5 Q am ad A 79 [some (.ref am), some (.int (nI (e))), some (.int (nI (op))), some (.int (bI (hgF A e op k))), some (.int (nI (k)))] [.int (bI (bb79))] := by
          intro bb79 hb79; subst hb79
          refine VR.blk h [(.istore_n 3, 1)] (by decide +kernel) (pc' := 80) (ls' := [some (.ref am), some (.int (nI (e))), some (.int (nI (op))), some (.int (bI ((hgF A e op k || (decide (tn A 5 (tn A 22 (600 * e + k)) = tn A 5 op) && decide (tn A 6 op < tn A 6 (tn A 22 (600 * e + k)))))))), some (.int (nI (k)))]) (st' := []) rfl rfl (Nat.le_of_ble_eq_true rfl) ?_
          refine VR.incN h (x := k) (i := 4) (by decide +kernel) rfl (Nat.le_of_ble_eq_true rfl) ?_
          refine VR.eqL (ls' := [some (.ref am), some (.int (nI (e))), some (.int (nI (op))), some (.int (bI ((hgF A e op k || (decide (tn A 5 (tn A 22 (600 * e + k)) = tn A 5 op) && decide (tn A 6 op < tn A 6 (tn A 22 (600 * e + k)))))))), some (.int (nI (k + 1)))]) rfl ?_
          refine VR.goto h (off := -78) (tgt := 5) (by decide +kernel) (by decide) ?_
          refine VR.eqL (ls' := [some (.ref am), some (.int (nI (e))), some (.int (nI (op))), some (.int (bI (hgF A e op ((k + 1))))), some (.int (nI ((k + 1))))]) (by simp only [hgF]) ?_
          exact ih5 (tn A 26 e - (k + 1)) (by omega) (k + 1) rfl (by omega)
        refine VR.blk h [(.iload_n 3, 1)] (by decide +kernel) (pc' := 17) (ls' := [some (.ref am), some (.int (nI (e))), some (.int (nI (op))), some (.int (bI (hgF A e op k))), some (.int (nI (k)))]) (st' := [.int (bI (hgF A e op k))]) rfl rfl (Nat.le_of_ble_eq_true rfl) ?_
        refine VR.if_ne h (off := 57) (by decide +kernel) (tgt := 74) (by decide) (fun q => ?_) (fun q => ?_)
        · have q17_27 := (bI_1 (fun z => q (bI_0.mpr z)))
          clear q
          refine VR.blk h [(.iconst 1, 1)] (by decide +kernel) (pc' := 75) (ls' := [some (.ref am), some (.int (nI (e))), some (.int (nI (op))), some (.int (bI (hgF A e op k))), some (.int (nI (k)))]) (st' := [.int (nI (1))]) rfl rfl (Nat.le_of_ble_eq_true rfl) ?_
          refine VR.goto h (off := 4) (tgt := 79) (by decide +kernel) (by decide) ?_
          refine VR.top (v' := .int (bI true)) (by rw [bI_t]) ?_
          exact join79 _ (by first | (simp [q13_11, q17_27]; done) | (simp [q13_11, q17_27]; omega))
        · have q17_27 := (bI_0.mp q)
          clear q
          refine VR.blk h [(.aload_n 0, 1)] (by decide +kernel) (pc' := 21) (ls' := [some (.ref am), some (.int (nI (e))), some (.int (nI (op))), some (.int (bI (hgF A e op k))), some (.int (nI (k)))]) (st' := [.ref am]) rfl rfl (Nat.le_of_ble_eq_true rfl) ?_
          refine VR.getA h (j := 5) rfl (Or.inl wf_RX11_13) (by decide +kernel) ?_
          refine VR.blk h [(.aload_n 0, 1)] (by decide +kernel) (pc' := 25) (ls' := [some (.ref am), some (.int (nI (e))), some (.int (nI (op))), some (.int (bI (hgF A e op k))), some (.int (nI (k)))]) (st' := [.ref am, .ref (ad 5)]) rfl rfl (Nat.le_of_ble_eq_true rfl) ?_
          refine VR.getA h (j := 22) rfl (Or.inl wf_RX11_57) (by decide +kernel) ?_
          refine VR.blk h [(.sipush 600, 3), (.iload_n 1, 1)] (by decide +kernel) (pc' := 32) (ls' := [some (.ref am), some (.int (nI (e))), some (.int (nI (op))), some (.int (bI (hgF A e op k))), some (.int (nI (k)))]) (st' := [.int (nI (e)), .int (nI (600)), .ref (ad 22), .ref (ad 5)]) rfl rfl (Nat.le_of_ble_eq_true rfl) ?_
          refine VR.mulN h (by decide +kernel) (Nat.le_of_ble_eq_true rfl) ?_
          refine VR.blk h [(.iload 4, 2)] (by decide +kernel) (pc' := 35) (ls' := [some (.ref am), some (.int (nI (e))), some (.int (nI (op))), some (.int (bI (hgF A e op k))), some (.int (nI (k)))]) (st' := [.int (nI (k)), .int (nI (600 * e)), .ref (ad 22), .ref (ad 5)]) rfl rfl (Nat.le_of_ble_eq_true rfl) ?_
          refine VR.addN h (by decide +kernel) (Nat.le_of_ble_eq_true rfl) ?_
          have hop := hlo k (by omega)
          refine VR.iald h (j := 22) (i := (600 * e) + k) rfl rfl (by show _ < 7200; omega) (by decide +kernel) (v := (nI (tn A 22 ((600 * e) + k)))) (mval_1 rfl) ?_
          have nb46 := hB.2 22 ((600 * e) + k)
          refine VR.iald h (j := 5) (i := tn A 22 ((600 * e) + k)) rfl rfl (by show _ < 600; omega) (by decide +kernel) (v := (nI (tn A 5 (tn A 22 ((600 * e) + k))))) (mval_1 rfl) ?_
          have nb48 := hB.2 5 (tn A 22 ((600 * e) + k))
          refine VR.blk h [(.aload_n 0, 1)] (by decide +kernel) (pc' := 39) (ls' := [some (.ref am), some (.int (nI (e))), some (.int (nI (op))), some (.int (bI (hgF A e op k))), some (.int (nI (k)))]) (st' := [.ref am, .int (nI (tn A 5 (tn A 22 ((600 * e) + k))))]) rfl rfl (Nat.le_of_ble_eq_true rfl) ?_
          refine VR.getA h (j := 5) rfl (Or.inl wf_RX11_13) (by decide +kernel) ?_
          refine VR.blk h [(.iload_n 2, 1)] (by decide +kernel) (pc' := 43) (ls' := [some (.ref am), some (.int (nI (e))), some (.int (nI (op))), some (.int (bI (hgF A e op k))), some (.int (nI (k)))]) (st' := [.int (nI (op)), .ref (ad 5), .int (nI (tn A 5 (tn A 22 ((600 * e) + k))))]) rfl rfl (Nat.le_of_ble_eq_true rfl) ?_
          refine VR.iald h (j := 5) (i := op) rfl rfl (by show _ < 600; omega) (by decide +kernel) (v := (nI (tn A 5 op))) (mval_1 rfl) ?_
          have nb53 := hB.2 5 op
          refine VR.icmp_ne h (off := 34) (by decide +kernel) (tgt := 78) (by decide) (fun q => ?_) (fun q => ?_)
          · have q44_54 : ¬ _ := (fun z => q ((nI_eq (by omega) (by omega)).mpr z))
            clear q
            refine VR.blk h [(.iconst 0, 1)] (by decide +kernel) (pc' := 79) (ls' := [some (.ref am), some (.int (nI (e))), some (.int (nI (op))), some (.int (bI (hgF A e op k))), some (.int (nI (k)))]) (st' := [.int (nI (0))]) rfl rfl (Nat.le_of_ble_eq_true rfl) ?_
            refine VR.top (v' := .int (bI false)) (by rw [bI_f]) ?_
            exact join79 _ (by first | (simp [q13_11, q17_27, q44_54]; done) | (simp [q13_11, q17_27, q44_54]; omega))
          · have q44_54 := ((nI_eq (by omega) (by omega)).mp q)
            clear q
            refine VR.blk h [(.aload_n 0, 1)] (by decide +kernel) (pc' := 48) (ls' := [some (.ref am), some (.int (nI (e))), some (.int (nI (op))), some (.int (bI (hgF A e op k))), some (.int (nI (k)))]) (st' := [.ref am]) rfl rfl (Nat.le_of_ble_eq_true rfl) ?_
            refine VR.getA h (j := 6) rfl (Or.inl wf_RX11_17) (by decide +kernel) ?_
            refine VR.blk h [(.aload_n 0, 1)] (by decide +kernel) (pc' := 52) (ls' := [some (.ref am), some (.int (nI (e))), some (.int (nI (op))), some (.int (bI (hgF A e op k))), some (.int (nI (k)))]) (st' := [.ref am, .ref (ad 6)]) rfl rfl (Nat.le_of_ble_eq_true rfl) ?_
            refine VR.getA h (j := 22) rfl (Or.inl wf_RX11_57) (by decide +kernel) ?_
            refine VR.blk h [(.sipush 600, 3), (.iload_n 1, 1)] (by decide +kernel) (pc' := 59) (ls' := [some (.ref am), some (.int (nI (e))), some (.int (nI (op))), some (.int (bI (hgF A e op k))), some (.int (nI (k)))]) (st' := [.int (nI (e)), .int (nI (600)), .ref (ad 22), .ref (ad 6)]) rfl rfl (Nat.le_of_ble_eq_true rfl) ?_
            refine VR.mulN h (by decide +kernel) (Nat.le_of_ble_eq_true rfl) ?_
            refine VR.blk h [(.iload 4, 2)] (by decide +kernel) (pc' := 62) (ls' := [some (.ref am), some (.int (nI (e))), some (.int (nI (op))), some (.int (bI (hgF A e op k))), some (.int (nI (k)))]) (st' := [.int (nI (k)), .int (nI (600 * e)), .ref (ad 22), .ref (ad 6)]) rfl rfl (Nat.le_of_ble_eq_true rfl) ?_
            refine VR.addN h (by decide +kernel) (Nat.le_of_ble_eq_true rfl) ?_
            have hop := hlo k (by omega)
            refine VR.iald h (j := 22) (i := (600 * e) + k) rfl rfl (by show _ < 7200; omega) (by decide +kernel) (v := (nI (tn A 22 ((600 * e) + k)))) (mval_1 rfl) ?_
            have nb72 := hB.2 22 ((600 * e) + k)
            refine VR.iald h (j := 6) (i := tn A 22 ((600 * e) + k)) rfl rfl (by show _ < 600; omega) (by decide +kernel) (v := (nI (tn A 6 (tn A 22 ((600 * e) + k))))) (mval_1 rfl) ?_
            have nb74 := hB.2 6 (tn A 22 ((600 * e) + k))
            refine VR.blk h [(.aload_n 0, 1)] (by decide +kernel) (pc' := 66) (ls' := [some (.ref am), some (.int (nI (e))), some (.int (nI (op))), some (.int (bI (hgF A e op k))), some (.int (nI (k)))]) (st' := [.ref am, .int (nI (tn A 6 (tn A 22 ((600 * e) + k))))]) rfl rfl (Nat.le_of_ble_eq_true rfl) ?_
            refine VR.getA h (j := 6) rfl (Or.inl wf_RX11_17) (by decide +kernel) ?_
            refine VR.blk h [(.iload_n 2, 1)] (by decide +kernel) (pc' := 70) (ls' := [some (.ref am), some (.int (nI (e))), some (.int (nI (op))), some (.int (bI (hgF A e op k))), some (.int (nI (k)))]) (st' := [.int (nI (op)), .ref (ad 6), .int (nI (tn A 6 (tn A 22 ((600 * e) + k))))]) rfl rfl (Nat.le_of_ble_eq_true rfl) ?_
            refine VR.iald h (j := 6) (i := op) rfl rfl (by show _ < 600; omega) (by decide +kernel) (v := (nI (tn A 6 op))) (mval_1 rfl) ?_
            have nb79 := hB.2 6 op
            refine VR.icmp_le h (off := 7) (by decide +kernel) (tgt := 78) (by decide) (fun q => ?_) (fun q => ?_)
            · have q71_80 := ((nI_leI (by omega) (by omega)).mp q)
              clear q
              refine VR.blk h [(.iconst 0, 1)] (by decide +kernel) (pc' := 79) (ls' := [some (.ref am), some (.int (nI (e))), some (.int (nI (op))), some (.int (bI (hgF A e op k))), some (.int (nI (k)))]) (st' := [.int (nI (0))]) rfl rfl (Nat.le_of_ble_eq_true rfl) ?_
              refine VR.top (v' := .int (bI false)) (by rw [bI_f]) ?_
              exact join79 _ (by first | (simp [q13_11, q17_27, q44_54, q71_80]; done) | (simp [q13_11, q17_27, q44_54, q71_80]; omega))
            · have q71_80 : ¬ _ := (fun z => q ((nI_leI (by omega) (by omega)).mpr z))
              clear q
              refine VR.blk h [(.iconst 1, 1)] (by decide +kernel) (pc' := 75) (ls' := [some (.ref am), some (.int (nI (e))), some (.int (nI (op))), some (.int (bI (hgF A e op k))), some (.int (nI (k)))]) (st' := [.int (nI (1))]) rfl rfl (Nat.le_of_ble_eq_true rfl) ?_
              refine VR.goto h (off := 4) (tgt := 79) (by decide +kernel) (by decide) ?_
              refine VR.top (v' := .int (bI true)) (by rw [bI_t]) ?_
              exact join79 _ (by first | (simp [q13_11, q17_27, q44_54, q71_80]; done) | (simp [q13_11, q17_27, q44_54, q71_80]; omega))
  refine VR.eqL (ls' := [some (.ref am), some (.int (nI (e))), some (.int (nI (op))), some (.int (bI (hgF A e op 0))), some (.int (nI (0)))]) (by rw [hgF, bI_f]) ?_
  exact loop5 _ 0 rfl (Nat.zero_le _)
