set_option maxRecDepth 100000 in
set_option maxHeartbeats 4000000 in
theorem r_readsSyncNow {l : Launch} {D : va_G} {tc : Nat → ClassId} {am : Nat} {ad : Nat → Nat} (hls : l.stackTraces = false) (A : TS) (e op K : Nat) (he : e < 12) (hm : tn A 26 e ≤ 600) (ho : op < 600) (ho2 : op < K) (hf : tf A 1 ≤ 3) (hl : tf A 53 ≤ 250) (hK9 : 7300 ≤ K) (hB : NB K A) (hK : K < 1999990000) : RM l D tc am ad yX11_readsSyncNow cX11_readsSyncNow 4 (none) 2 [.ref am, .int (nI (e)), .int (nI (op))] A (none) (snowF A e op) := by
  refine RM.of hls (by decide +kernel) (by simp [Value.category]) (Nat.le_of_ble_eq_true rfl) (fun A0 p e9 s m args below meth c S0 sz Q h hr hA hQ => ?_)
  have hpl := placeF_le A e op
  refine VR.eqL (ls' := [some (.ref am), some (.int (nI (e))), some (.int (nI (op))), none]) rfl ?_
  refine VR.blk h [(.aload_n 0, 1), (.iload_n 1, 1), (.iload_n 2, 1)] (by decide +kernel) (pc' := 3) (ls' := [some (.ref am), some (.int (nI (e))), some (.int (nI (op))), none]) (st' := [.int (nI (op)), .int (nI (e)), .ref am]) rfl rfl (Nat.le_of_ble_eq_true rfl) ?_
  refine VR.call h (np := 2) (st := []) (r_place hls A e op K he hm hB (by omega) (by omega)) wc_X11_place wn_RX11 (Or.inl wm_RX11_183) wi_X11_place we_X11_place (by decide +kernel) rfl (by decide) (by decide) (by simp [Value.category]) (by decide +kernel) rfl ?_
  refine VR.blk h [(.istore_n 3, 1), (.iload_n 3, 1)] (by decide +kernel) (pc' := 8) (ls' := [some (.ref am), some (.int (nI (e))), some (.int (nI (op))), some (.int (oI (placeF A e op)))]) (st' := [.int (oI (placeF A e op))]) rfl rfl (Nat.le_of_ble_eq_true rfl) ?_
  refine VR.if_ge h (off := 4) (by decide +kernel) (tgt := 12) (by decide) (fun q => ?_) (fun q => ?_)
  · have q8_5 := ((oI_nn (by omega)).mp q)
    clear q
    refine VR.eqL (ls' := [some (.ref am), some (.int (nI (e))), some (.int (nI (op))), some (.int (nI ((placeF A e op) - 1)))]) (by rw [oI_posI (by omega)]) ?_
    refine VR.blk h [(.iload_n 3, 1), (.aload_n 0, 1)] (by decide +kernel) (pc' := 14) (ls' := [some (.ref am), some (.int (nI (e))), some (.int (nI (op))), some (.int (nI ((placeF A e op) - 1)))]) (st' := [.ref am, .int (nI ((placeF A e op) - 1))]) rfl rfl (Nat.le_of_ble_eq_true rfl) ?_
    refine VR.getA h (j := 28) rfl (Or.inl wf_RX11_75) (by decide +kernel) ?_
    refine VR.blk h [(.iload_n 1, 1)] (by decide +kernel) (pc' := 18) (ls' := [some (.ref am), some (.int (nI (e))), some (.int (nI (op))), some (.int (nI ((placeF A e op) - 1)))]) (st' := [.int (nI (e)), .ref (ad 28), .int (nI ((placeF A e op) - 1))]) rfl rfl (Nat.le_of_ble_eq_true rfl) ?_
    refine VR.iald h (j := 28) (i := e) rfl rfl (by show _ < 12; omega) (by decide +kernel) (v := (nI (tn A 28 e))) (mval_1 rfl) ?_
    have nb13 := hB.2 28 e
    refine VR.icmp_ge h (off := 23) (by decide +kernel) (tgt := 42) (by decide) (fun q => ?_) (fun q => ?_)
    · have q19_14 := ((nI_leI (by omega) (by omega)).mp q)
      clear q
      refine VR.blk h [(.aload_n 0, 1)] (by decide +kernel) (pc' := 43) (ls' := [some (.ref am), some (.int (nI (e))), some (.int (nI (op))), some (.int (nI ((placeF A e op) - 1)))]) (st' := [.ref am]) rfl rfl (Nat.le_of_ble_eq_true rfl) ?_
      refine VR.getA h (j := 25) rfl (Or.inl wf_RX11_66) (by decide +kernel) ?_
      refine VR.blk h [(.sipush 600, 3), (.iload_n 1, 1)] (by decide +kernel) (pc' := 50) (ls' := [some (.ref am), some (.int (nI (e))), some (.int (nI (op))), some (.int (nI ((placeF A e op) - 1)))]) (st' := [.int (nI (e)), .int (nI (600)), .ref (ad 25)]) rfl rfl (Nat.le_of_ble_eq_true rfl) ?_
      refine VR.mulN h (by decide +kernel) (Nat.le_of_ble_eq_true rfl) ?_
      refine VR.blk h [(.iload_n 3, 1)] (by decide +kernel) (pc' := 52) (ls' := [some (.ref am), some (.int (nI (e))), some (.int (nI (op))), some (.int (nI ((placeF A e op) - 1)))]) (st' := [.int (nI ((placeF A e op) - 1)), .int (nI (600 * e)), .ref (ad 25)]) rfl rfl (Nat.le_of_ble_eq_true rfl) ?_
      refine VR.addN h (by decide +kernel) (Nat.le_of_ble_eq_true rfl) ?_
      refine VR.blk h [(.iconst 1, 1)] (by decide +kernel) (pc' := 54) (ls' := [some (.ref am), some (.int (nI (e))), some (.int (nI (op))), some (.int (nI ((placeF A e op) - 1)))]) (st' := [.int (nI (1)), .int (nI ((600 * e) + ((placeF A e op) - 1))), .ref (ad 25)]) rfl rfl (Nat.le_of_ble_eq_true rfl) ?_
      refine VR.bast h (j := 25) (i := (600 * e) + ((placeF A e op) - 1)) (v := true) rfl rfl (by show _ < 7200; omega) (by decide +kernel) ?_
      refine VR.blk h [(.aload_n 0, 1), (.iload_n 1, 1)] (by decide +kernel) (pc' := 57) (ls' := [some (.ref am), some (.int (nI (e))), some (.int (nI (op))), some (.int (nI ((placeF A e op) - 1)))]) (st' := [.int (nI (e)), .ref am]) rfl rfl (Nat.le_of_ble_eq_true rfl) ?_
      refine VR.call h (np := 1) (st := []) (r_syncs hls (sb A 25 ((600 * e) + ((placeF A e op) - 1)) true) e K he hf hl hK9 hB.sb (by omega)) wc_X11_syncs wn_RX11 (Or.inl wm_RX11_191) wi_X11_syncs we_X11_syncs (by decide +kernel) rfl (by decide) (by decide) (by simp [Value.category]) (by decide +kernel) rfl ?_
      exact VR.vret h hA hQ hr rfl (by unfold snowF; (repeat (first | rw [if_pos (by omega)] | rw [if_neg (by omega)])) <;> rfl) (by decide +kernel)
    · have q19_14 : ¬ _ := (fun z => q ((nI_leI (by omega) (by omega)).mpr z))
      clear q
      refine VR.blk h [(.aload_n 0, 1), (.iload_n 1, 1), (.iload_n 2, 1), (.aload_n 0, 1)] (by decide +kernel) (pc' := 26) (ls' := [some (.ref am), some (.int (nI (e))), some (.int (nI (op))), some (.int (nI ((placeF A e op) - 1)))]) (st' := [.ref am, .int (nI (op)), .int (nI (e)), .ref am]) rfl rfl (Nat.le_of_ble_eq_true rfl) ?_
      refine VR.getA h (j := 23) rfl (Or.inl wf_RX11_60) (by decide +kernel) ?_
      refine VR.blk h [(.sipush 600, 3), (.iload_n 1, 1)] (by decide +kernel) (pc' := 33) (ls' := [some (.ref am), some (.int (nI (e))), some (.int (nI (op))), some (.int (nI ((placeF A e op) - 1)))]) (st' := [.int (nI (e)), .int (nI (600)), .ref (ad 23), .int (nI (op)), .int (nI (e)), .ref am]) rfl rfl (Nat.le_of_ble_eq_true rfl) ?_
      refine VR.mulN h (by decide +kernel) (Nat.le_of_ble_eq_true rfl) ?_
      refine VR.blk h [(.iload_n 3, 1)] (by decide +kernel) (pc' := 35) (ls' := [some (.ref am), some (.int (nI (e))), some (.int (nI (op))), some (.int (nI ((placeF A e op) - 1)))]) (st' := [.int (nI ((placeF A e op) - 1)), .int (nI (600 * e)), .ref (ad 23), .int (nI (op)), .int (nI (e)), .ref am]) rfl rfl (Nat.le_of_ble_eq_true rfl) ?_
      refine VR.addN h (by decide +kernel) (Nat.le_of_ble_eq_true rfl) ?_
      refine VR.iald h (j := 23) (i := (600 * e) + ((placeF A e op) - 1)) rfl rfl (by show _ < 7200; omega) (by decide +kernel) (v := (tr A 23 ((600 * e) + ((placeF A e op) - 1)))) (mval_3 rfl) ?_
      refine VR.blk h [(.iconst 1, 1)] (by decide +kernel) (pc' := 38) (ls' := [some (.ref am), some (.int (nI (e))), some (.int (nI (op))), some (.int (nI ((placeF A e op) - 1)))]) (st' := [.int (nI (1)), .int (tr A 23 ((600 * e) + ((placeF A e op) - 1))), .int (nI (op)), .int (nI (e)), .ref am]) rfl rfl (Nat.le_of_ble_eq_true rfl) ?_
      refine VR.call h (np := 4) (st := []) (r_answers hls A e op (tr A 23 ((600 * e) + ((placeF A e op) - 1))) true K (by omega) ho ho2 hl hK9 hB (by omega)) wc_X11_answers wn_RX11 (Or.inl wm_RX11_187) wi_X11_answers we_X11_answers (by decide +kernel) rfl (by decide) (by decide) (by simp [Value.category]) (by decide +kernel) (by simp [oI_s, bI_f, bI_t]) ?_
      exact VR.vret h hA hQ hr rfl (by unfold snowF; (repeat (first | rw [if_pos (by omega)] | rw [if_neg (by omega)])) <;> rfl) (by decide +kernel)
  · have q8_5 := (Decidable.of_not_not (fun z => q ((oI_nn (by omega)).mpr z)))
    clear q
    exact VR.vret h hA hQ hr rfl (by unfold snowF; (repeat (first | rw [if_pos (by omega)] | rw [if_neg (by omega)])) <;> rfl) (by decide +kernel)

set_option maxRecDepth 100000 in
set_option maxHeartbeats 4000000 in
theorem r_readsSync {l : Launch} {D : va_G} {tc : Nat → ClassId} {am : Nat} {ad : Nat → Nat} (hls : l.stackTraces = false) (A : TS) (b e n c9 K : Nat) (hb : b < 3) (h2 : e ≤ K) (h3 : n ≤ K) (h4 : c9 ≤ K) (hl : tf A 53 ≤ 250) (hK9 : 7300 ≤ K) (hB : NB K A) (hK : K < 2000000000) : RM l D tc am ad yX11_readsSync cX11_readsSync 5 (none) 1 [.ref am, .int (nI (b)), .int (nI (e)), .int (nI (n)), .int (nI (c9))] A (none) (rsynF A b e n c9) := by
  refine RM.of hls (by decide +kernel) (by simp [Value.category]) (Nat.le_of_ble_eq_true rfl) (fun A0 p e9 s m args below meth c S0 sz Q h hr hA hQ => ?_)
  refine VR.eqL (ls' := [some (.ref am), some (.int (nI (b))), some (.int (nI (e))), some (.int (nI (n))), some (.int (nI (c9)))]) rfl ?_
  refine VR.blk h [(.iload_n 2, 1), (.aload_n 0, 1)] (by decide +kernel) (pc' := 2) (ls' := [some (.ref am), some (.int (nI (b))), some (.int (nI (e))), some (.int (nI (n))), some (.int (nI (c9)))]) (st' := [.ref am, .int (nI (e))]) rfl rfl (Nat.le_of_ble_eq_true rfl) ?_
  refine VR.getA h (j := 39) rfl (Or.inl wf_RX11_105) (by decide +kernel) ?_
  refine VR.blk h [(.iload_n 1, 1)] (by decide +kernel) (pc' := 6) (ls' := [some (.ref am), some (.int (nI (b))), some (.int (nI (e))), some (.int (nI (n))), some (.int (nI (c9)))]) (st' := [.int (nI (b)), .ref (ad 39), .int (nI (e))]) rfl rfl (Nat.le_of_ble_eq_true rfl) ?_
  refine VR.iald h (j := 39) (i := b) rfl rfl (by show _ < 3; omega) (by decide +kernel) (v := (nI (tn A 39 b))) (mval_1 rfl) ?_
  have nb5 := hB.2 39 b
  refine VR.icmp_ge h (off := 4) (by decide +kernel) (tgt := 11) (by decide) (fun q => ?_) (fun q => ?_)
  · have q7_6 := ((nI_leI (by omega) (by omega)).mp q)
    clear q
    refine VR.blk h [(.iload_n 2, 1), (.aload_n 0, 1)] (by decide +kernel) (pc' := 13) (ls' := [some (.ref am), some (.int (nI (b))), some (.int (nI (e))), some (.int (nI (n))), some (.int (nI (c9)))]) (st' := [.ref am, .int (nI (e))]) rfl rfl (Nat.le_of_ble_eq_true rfl) ?_
    refine VR.getA h (j := 39) rfl (Or.inl wf_RX11_105) (by decide +kernel) ?_
    refine VR.blk h [(.iload_n 1, 1)] (by decide +kernel) (pc' := 17) (ls' := [some (.ref am), some (.int (nI (b))), some (.int (nI (e))), some (.int (nI (n))), some (.int (nI (c9)))]) (st' := [.int (nI (b)), .ref (ad 39), .int (nI (e))]) rfl rfl (Nat.le_of_ble_eq_true rfl) ?_
    refine VR.iald h (j := 39) (i := b) rfl rfl (by show _ < 3; omega) (by decide +kernel) (v := (nI (tn A 39 b))) (mval_1 rfl) ?_
    have nb13 := hB.2 39 b
    refine VR.icmp_le h (off := 20) (by decide +kernel) (tgt := 38) (by decide) (fun q => ?_) (fun q => ?_)
    · have q18_14 := ((nI_leI (by omega) (by omega)).mp q)
      clear q
      refine VR.blk h [(.aload_n 0, 1)] (by decide +kernel) (pc' := 39) (ls' := [some (.ref am), some (.int (nI (b))), some (.int (nI (e))), some (.int (nI (n))), some (.int (nI (c9)))]) (st' := [.ref am]) rfl rfl (Nat.le_of_ble_eq_true rfl) ?_
      refine VR.getA h (j := 40) rfl (Or.inl wf_RX11_108) (by decide +kernel) ?_
      refine VR.blk h [(.iload_n 1, 1)] (by decide +kernel) (pc' := 43) (ls' := [some (.ref am), some (.int (nI (b))), some (.int (nI (e))), some (.int (nI (n))), some (.int (nI (c9)))]) (st' := [.int (nI (b)), .ref (ad 40)]) rfl rfl (Nat.le_of_ble_eq_true rfl) ?_
      refine VR.iald h (j := 40) (i := b) rfl rfl (by show _ < 3; omega) (by decide +kernel) (v := (nI (tn A 40 b))) (mval_1 rfl) ?_
      have nb21 := hB.2 40 b
      refine VR.blk h [(.iload_n 3, 1)] (by decide +kernel) (pc' := 45) (ls' := [some (.ref am), some (.int (nI (b))), some (.int (nI (e))), some (.int (nI (n))), some (.int (nI (c9)))]) (st' := [.int (nI (n)), .int (nI (tn A 40 b))]) rfl rfl (Nat.le_of_ble_eq_true rfl) ?_
      refine VR.icmp_ge h (off := 10) (by decide +kernel) (tgt := 55) (by decide) (fun q => ?_) (fun q => ?_)
      · have q45_23 := ((nI_leI (by omega) (by omega)).mp q)
        clear q
        refine VR.blk h [(.aload_n 0, 1), (.bipush 7, 2), (.iload_n 2, 1), (.iload_n 1, 1)] (by decide +kernel) (pc' := 60) (ls' := [some (.ref am), some (.int (nI (b))), some (.int (nI (e))), some (.int (nI (n))), some (.int (nI (c9)))]) (st' := [.int (nI (b)), .int (nI (e)), .int (nI (7)), .ref am]) rfl rfl (Nat.le_of_ble_eq_true rfl) ?_
        refine VR.m1 h (by decide +kernel) (Nat.le_of_ble_eq_true rfl) ?_
        refine VR.blk h [(.aload_n 0, 1)] (by decide +kernel) (pc' := 62) (ls' := [some (.ref am), some (.int (nI (b))), some (.int (nI (e))), some (.int (nI (n))), some (.int (nI (c9)))]) (st' := [.ref am, .int (oI (0)), .int (nI (b)), .int (nI (e)), .int (nI (7)), .ref am]) rfl rfl (Nat.le_of_ble_eq_true rfl) ?_
        refine VR.getA h (j := 40) rfl (Or.inl wf_RX11_108) (by decide +kernel) ?_
        refine VR.blk h [(.iload_n 1, 1)] (by decide +kernel) (pc' := 66) (ls' := [some (.ref am), some (.int (nI (b))), some (.int (nI (e))), some (.int (nI (n))), some (.int (nI (c9)))]) (st' := [.int (nI (b)), .ref (ad 40), .int (oI (0)), .int (nI (b)), .int (nI (e)), .int (nI (7)), .ref am]) rfl rfl (Nat.le_of_ble_eq_true rfl) ?_
        refine VR.iald h (j := 40) (i := b) rfl rfl (by show _ < 3; omega) (by decide +kernel) (v := (nI (tn A 40 b))) (mval_1 rfl) ?_
        have nb32 := hB.2 40 b
        refine VR.blk h [(.iload 4, 2), (.iconst 0, 1), (.iconst 0, 1)] (by decide +kernel) (pc' := 71) (ls' := [some (.ref am), some (.int (nI (b))), some (.int (nI (e))), some (.int (nI (n))), some (.int (nI (c9)))]) (st' := [.int (nI (0)), .int (nI (0)), .int (nI (c9)), .int (nI (tn A 40 b)), .int (oI (0)), .int (nI (b)), .int (nI (e)), .int (nI (7)), .ref am]) rfl rfl (Nat.le_of_ble_eq_true rfl) ?_
        refine VR.call h (np := 8) (st := []) (r_send hls A 7 e b 0 (tn A 40 b) c9 (nI 0) false K (by omega) (by omega) (by omega) (by omega) (by omega) (by omega) hl hB hK) wc_X11_send wn_RX11 (Or.inl wm_RX11_176) wi_X11_send we_X11_send (by decide +kernel) rfl (by decide) (by decide) (by simp [Value.category]) (by decide +kernel) (by simp [oI_s, bI_f, bI_t]) ?_
        exact VR.vret h hA hQ hr rfl (by unfold rsynF rsynA; (repeat (first | rw [if_pos (by omega)] | rw [if_neg (by omega)])) <;> rfl) (by decide +kernel)
      · have q45_23 : ¬ _ := (fun z => q ((nI_leI (by omega) (by omega)).mpr z))
        clear q
        refine VR.blk h [(.aload_n 0, 1)] (by decide +kernel) (pc' := 49) (ls' := [some (.ref am), some (.int (nI (b))), some (.int (nI (e))), some (.int (nI (n))), some (.int (nI (c9)))]) (st' := [.ref am]) rfl rfl (Nat.le_of_ble_eq_true rfl) ?_
        refine VR.getA h (j := 40) rfl (Or.inl wf_RX11_108) (by decide +kernel) ?_
        refine VR.blk h [(.iload_n 1, 1), (.iload_n 3, 1)] (by decide +kernel) (pc' := 54) (ls' := [some (.ref am), some (.int (nI (b))), some (.int (nI (e))), some (.int (nI (n))), some (.int (nI (c9)))]) (st' := [.int (nI (n)), .int (nI (b)), .ref (ad 40)]) rfl rfl (Nat.le_of_ble_eq_true rfl) ?_
        refine VR.iastN h (j := 40) (i := b) rfl rfl (by show _ < 3; omega) (by decide +kernel) ?_
        refine VR.blk h [(.aload_n 0, 1), (.bipush 7, 2), (.iload_n 2, 1), (.iload_n 1, 1)] (by decide +kernel) (pc' := 60) (ls' := [some (.ref am), some (.int (nI (b))), some (.int (nI (e))), some (.int (nI (n))), some (.int (nI (c9)))]) (st' := [.int (nI (b)), .int (nI (e)), .int (nI (7)), .ref am]) rfl rfl (Nat.le_of_ble_eq_true rfl) ?_
        refine VR.m1 h (by decide +kernel) (Nat.le_of_ble_eq_true rfl) ?_
        refine VR.blk h [(.aload_n 0, 1)] (by decide +kernel) (pc' := 62) (ls' := [some (.ref am), some (.int (nI (b))), some (.int (nI (e))), some (.int (nI (n))), some (.int (nI (c9)))]) (st' := [.ref am, .int (oI (0)), .int (nI (b)), .int (nI (e)), .int (nI (7)), .ref am]) rfl rfl (Nat.le_of_ble_eq_true rfl) ?_
        refine VR.getA h (j := 40) rfl (Or.inl wf_RX11_108) (by decide +kernel) ?_
        refine VR.blk h [(.iload_n 1, 1)] (by decide +kernel) (pc' := 66) (ls' := [some (.ref am), some (.int (nI (b))), some (.int (nI (e))), some (.int (nI (n))), some (.int (nI (c9)))]) (st' := [.int (nI (b)), .ref (ad 40), .int (oI (0)), .int (nI (b)), .int (nI (e)), .int (nI (7)), .ref am]) rfl rfl (Nat.le_of_ble_eq_true rfl) ?_
        have nbw := (hB.sn (j := 40) (i := b) (v := n) (by omega)).2 40 b
        refine VR.iald h (j := 40) (i := b) rfl rfl (by show _ < 3; omega) (by decide +kernel) (v := (nI (tn (sn A 40 b n) 40 b))) (mval_1 rfl) ?_
        refine VR.blk h [(.iload 4, 2), (.iconst 0, 1), (.iconst 0, 1)] (by decide +kernel) (pc' := 71) (ls' := [some (.ref am), some (.int (nI (b))), some (.int (nI (e))), some (.int (nI (n))), some (.int (nI (c9)))]) (st' := [.int (nI (0)), .int (nI (0)), .int (nI (c9)), .int (nI (tn (sn A 40 b n) 40 b)), .int (oI (0)), .int (nI (b)), .int (nI (e)), .int (nI (7)), .ref am]) rfl rfl (Nat.le_of_ble_eq_true rfl) ?_
        refine VR.call h (np := 8) (st := []) (r_send hls (sn A 40 b n) 7 e b 0 (tn (sn A 40 b n) 40 b) c9 (nI 0) false K (by omega) (by omega) (by omega) (by omega) (by omega) (by omega) hl (hB.sn (by omega)) hK) wc_X11_send wn_RX11 (Or.inl wm_RX11_176) wi_X11_send we_X11_send (by decide +kernel) rfl (by decide) (by decide) (by simp [Value.category]) (by decide +kernel) (by simp [oI_s, bI_f, bI_t]) ?_
        exact VR.vret h hA hQ hr rfl (by unfold rsynF rsynA; (repeat (first | rw [if_pos (by omega)] | rw [if_neg (by omega)])) <;> rfl) (by decide +kernel)
    · have q18_14 : ¬ _ := (fun z => q ((nI_leI (by omega) (by omega)).mpr z))
      clear q
      refine VR.blk h [(.aload_n 0, 1)] (by decide +kernel) (pc' := 22) (ls' := [some (.ref am), some (.int (nI (b))), some (.int (nI (e))), some (.int (nI (n))), some (.int (nI (c9)))]) (st' := [.ref am]) rfl rfl (Nat.le_of_ble_eq_true rfl) ?_
      refine VR.getA h (j := 39) rfl (Or.inl wf_RX11_105) (by decide +kernel) ?_
      refine VR.blk h [(.iload_n 1, 1), (.iload_n 2, 1)] (by decide +kernel) (pc' := 27) (ls' := [some (.ref am), some (.int (nI (b))), some (.int (nI (e))), some (.int (nI (n))), some (.int (nI (c9)))]) (st' := [.int (nI (e)), .int (nI (b)), .ref (ad 39)]) rfl rfl (Nat.le_of_ble_eq_true rfl) ?_
      refine VR.iastN h (j := 39) (i := b) rfl rfl (by show _ < 3; omega) (by decide +kernel) ?_
      refine VR.blk h [(.aload_n 0, 1)] (by decide +kernel) (pc' := 29) (ls' := [some (.ref am), some (.int (nI (b))), some (.int (nI (e))), some (.int (nI (n))), some (.int (nI (c9)))]) (st' := [.ref am]) rfl rfl (Nat.le_of_ble_eq_true rfl) ?_
      refine VR.getA h (j := 40) rfl (Or.inl wf_RX11_108) (by decide +kernel) ?_
      refine VR.blk h [(.iload_n 1, 1), (.iload_n 3, 1)] (by decide +kernel) (pc' := 34) (ls' := [some (.ref am), some (.int (nI (b))), some (.int (nI (e))), some (.int (nI (n))), some (.int (nI (c9)))]) (st' := [.int (nI (n)), .int (nI (b)), .ref (ad 40)]) rfl rfl (Nat.le_of_ble_eq_true rfl) ?_
      refine VR.iastN h (j := 40) (i := b) rfl rfl (by show _ < 3; omega) (by decide +kernel) ?_
      refine VR.goto h (off := 20) (tgt := 55) (by decide +kernel) (by decide) ?_
      refine VR.blk h [(.aload_n 0, 1), (.bipush 7, 2), (.iload_n 2, 1), (.iload_n 1, 1)] (by decide +kernel) (pc' := 60) (ls' := [some (.ref am), some (.int (nI (b))), some (.int (nI (e))), some (.int (nI (n))), some (.int (nI (c9)))]) (st' := [.int (nI (b)), .int (nI (e)), .int (nI (7)), .ref am]) rfl rfl (Nat.le_of_ble_eq_true rfl) ?_
      refine VR.m1 h (by decide +kernel) (Nat.le_of_ble_eq_true rfl) ?_
      refine VR.blk h [(.aload_n 0, 1)] (by decide +kernel) (pc' := 62) (ls' := [some (.ref am), some (.int (nI (b))), some (.int (nI (e))), some (.int (nI (n))), some (.int (nI (c9)))]) (st' := [.ref am, .int (oI (0)), .int (nI (b)), .int (nI (e)), .int (nI (7)), .ref am]) rfl rfl (Nat.le_of_ble_eq_true rfl) ?_
      refine VR.getA h (j := 40) rfl (Or.inl wf_RX11_108) (by decide +kernel) ?_
      refine VR.blk h [(.iload_n 1, 1)] (by decide +kernel) (pc' := 66) (ls' := [some (.ref am), some (.int (nI (b))), some (.int (nI (e))), some (.int (nI (n))), some (.int (nI (c9)))]) (st' := [.int (nI (b)), .ref (ad 40), .int (oI (0)), .int (nI (b)), .int (nI (e)), .int (nI (7)), .ref am]) rfl rfl (Nat.le_of_ble_eq_true rfl) ?_
      have nbw := ((hB.sn (j := 39) (i := b) (v := e) (by omega)).sn (j := 40) (i := b) (v := n) (by omega)).2 40 b
      refine VR.iald h (j := 40) (i := b) rfl rfl (by show _ < 3; omega) (by decide +kernel) (v := (nI (tn (sn (sn A 39 b e) 40 b n) 40 b))) (mval_1 rfl) ?_
      refine VR.blk h [(.iload 4, 2), (.iconst 0, 1), (.iconst 0, 1)] (by decide +kernel) (pc' := 71) (ls' := [some (.ref am), some (.int (nI (b))), some (.int (nI (e))), some (.int (nI (n))), some (.int (nI (c9)))]) (st' := [.int (nI (0)), .int (nI (0)), .int (nI (c9)), .int (nI (tn (sn (sn A 39 b e) 40 b n) 40 b)), .int (oI (0)), .int (nI (b)), .int (nI (e)), .int (nI (7)), .ref am]) rfl rfl (Nat.le_of_ble_eq_true rfl) ?_
      refine VR.call h (np := 8) (st := []) (r_send hls (sn (sn A 39 b e) 40 b n) 7 e b 0 (tn (sn (sn A 39 b e) 40 b n) 40 b) c9 (nI 0) false K (by omega) (by omega) (by omega) (by omega) (by omega) (by omega) hl ((hB.sn (by omega)).sn (by omega)) hK) wc_X11_send wn_RX11 (Or.inl wm_RX11_176) wi_X11_send we_X11_send (by decide +kernel) rfl (by decide) (by decide) (by simp [Value.category]) (by decide +kernel) (by simp [oI_s, bI_f, bI_t]) ?_
      exact VR.vret h hA hQ hr rfl (by unfold rsynF rsynA; (repeat (first | rw [if_pos (by omega)] | rw [if_neg (by omega)])) <;> rfl) (by decide +kernel)
  · have q7_6 : ¬ _ := (fun z => q ((nI_leI (by omega) (by omega)).mpr z))
    clear q
    exact VR.vret h hA hQ hr rfl (by unfold rsynF rsynA; (repeat (first | rw [if_pos (by omega)] | rw [if_neg (by omega)])) <;> rfl) (by decide +kernel)

set_option maxRecDepth 100000 in
set_option maxHeartbeats 4000000 in
theorem r_holds {l : Launch} {D : va_G} {tc : Nat → ClassId} {am : Nat} {ad : Nat → Nat} (hls : l.stackTraces = false) (A : TS) (w op K : Nat) (hw : w < 3) (hm : tn A 44 w ≤ 16) (hB : NB K A) (hK : K < 2000000000) (ho : op < 600) : RM l D tc am ad yX11_holds cX11_holds 5 (some .boolean) 0 [.ref am, .int (nI (w)), .int (nI (op))] A (some (.int (bI (holdF A w op)))) (A) := by
  refine RM.of hls (by decide +kernel) (by simp [Value.category]) (Nat.le_of_ble_eq_true rfl) (fun A0 p e9 s m args below meth c S0 sz Q h hr hA hQ => ?_)
  refine VR.eqL (ls' := [some (.ref am), some (.int (nI (w))), some (.int (nI (op))), none, none]) rfl ?_
  refine VR.blk h [(.iconst 0, 1), (.istore_n 3, 1), (.iconst 0, 1), (.istore 4, 2)] (by decide +kernel) (pc' := 5) (ls' := [some (.ref am), some (.int (nI (w))), some (.int (nI (op))), some (.int (nI (0))), some (.int (nI (0)))]) (st' := []) rfl rfl (Nat.le_of_ble_eq_true rfl) ?_
  have loop5 : ∀ (t k : Nat), tn A 44 w - k = t → k ≤ tn A 44 w → VR l D tc A0 p e9 (rmd 0 0 0) s m args below meth c 5 Q am ad A 5 [some (.ref am), some (.int (nI (w))), some (.int (nI (op))), some (.int (bI (hoF A w op k))), some (.int (nI (k)))] [] := by
    intro t; induction t using Nat.strongRecOn with
    | _ t ih5 =>
      intro k ht5 hk5
      refine VR.blk h [(.iload 4, 2), (.aload_n 0, 1)] (by decide +kernel) (pc' := 8) (ls' := [some (.ref am), some (.int (nI (w))), some (.int (nI (op))), some (.int (bI (hoF A w op k))), some (.int (nI (k)))]) (st' := [.ref am, .int (nI (k))]) rfl rfl (Nat.le_of_ble_eq_true rfl) ?_
      refine VR.getA h (j := 44) rfl (Or.inl wf_RX11_120) (by decide +kernel) ?_
      refine VR.blk h [(.iload_n 1, 1)] (by decide +kernel) (pc' := 12) (ls' := [some (.ref am), some (.int (nI (w))), some (.int (nI (op))), some (.int (bI (hoF A w op k))), some (.int (nI (k)))]) (st' := [.int (nI (w)), .ref (ad 44), .int (nI (k))]) rfl rfl (Nat.le_of_ble_eq_true rfl) ?_
      refine VR.iald h (j := 44) (i := w) rfl rfl (by show _ < 3; omega) (by decide +kernel) (v := (nI (tn A 44 w))) (mval_1 rfl) ?_
      have nb10 := hB.2 44 w
      refine VR.icmp_ge h (off := 35) (by decide +kernel) (tgt := 48) (by decide) (fun q => ?_) (fun q => ?_)
      · have q13_11 := ((nI_leI (by omega) (by omega)).mp q)
        clear q
        refine VR.blk h [(.iload_n 3, 1)] (by decide +kernel) (pc' := 49) (ls' := [some (.ref am), some (.int (nI (w))), some (.int (nI (op))), some (.int (bI (hoF A w op k))), some (.int (nI (k)))]) (st' := [.int (bI (hoF A w op k))]) rfl rfl (Nat.le_of_ble_eq_true rfl) ?_
        exact VR.iret h hA hQ hr (bI_nar _) (by rw [holdF, show k = tn A 44 w by omega]) rfl (by decide +kernel)
      · have q13_11 : ¬ _ := (fun z => q ((nI_leI (by omega) (by omega)).mpr z))
        clear q
        have join41 : ∀ bb41 : Bool, bb41 = (hoF A w op k || decide (tn A 43 (16 * w + k) = op)) → VR l D tc A0 p e9 (rmd 0 0 0) s m args below meth c 5 Q am ad A 41 [some (.ref am), some (.int (nI (w))), some (.int (nI (op))), some (.int (bI (hoF A w op k))), some (.int (nI (k)))] [.int (bI (bb41))] := by
          intro bb41 hb41; subst hb41
          refine VR.blk h [(.istore_n 3, 1)] (by decide +kernel) (pc' := 42) (ls' := [some (.ref am), some (.int (nI (w))), some (.int (nI (op))), some (.int (bI ((hoF A w op k || decide (tn A 43 (16 * w + k) = op))))), some (.int (nI (k)))]) (st' := []) rfl rfl (Nat.le_of_ble_eq_true rfl) ?_
          refine VR.incN h (x := k) (i := 4) (by decide +kernel) rfl (Nat.le_of_ble_eq_true rfl) ?_
          refine VR.eqL (ls' := [some (.ref am), some (.int (nI (w))), some (.int (nI (op))), some (.int (bI ((hoF A w op k || decide (tn A 43 (16 * w + k) = op))))), some (.int (nI (k + 1)))]) rfl ?_
          refine VR.goto h (off := -40) (tgt := 5) (by decide +kernel) (by decide) ?_
          refine VR.eqL (ls' := [some (.ref am), some (.int (nI (w))), some (.int (nI (op))), some (.int (bI (hoF A w op ((k + 1))))), some (.int (nI ((k + 1))))]) (by simp only [hoF]) ?_
          exact ih5 (tn A 44 w - (k + 1)) (by omega) (k + 1) rfl (by omega)
        refine VR.blk h [(.iload_n 3, 1)] (by decide +kernel) (pc' := 17) (ls' := [some (.ref am), some (.int (nI (w))), some (.int (nI (op))), some (.int (bI (hoF A w op k))), some (.int (nI (k)))]) (st' := [.int (bI (hoF A w op k))]) rfl rfl (Nat.le_of_ble_eq_true rfl) ?_
        refine VR.if_ne h (off := 19) (by decide +kernel) (tgt := 36) (by decide) (fun q => ?_) (fun q => ?_)
        · have q17_27 := (bI_1 (fun z => q (bI_0.mpr z)))
          clear q
          refine VR.blk h [(.iconst 1, 1)] (by decide +kernel) (pc' := 37) (ls' := [some (.ref am), some (.int (nI (w))), some (.int (nI (op))), some (.int (bI (hoF A w op k))), some (.int (nI (k)))]) (st' := [.int (nI (1))]) rfl rfl (Nat.le_of_ble_eq_true rfl) ?_
          refine VR.goto h (off := 4) (tgt := 41) (by decide +kernel) (by decide) ?_
          refine VR.top (v' := .int (bI true)) (by rw [bI_t]) ?_
          exact join41 _ (by first | (simp [q13_11, q17_27]; done) | (simp [q13_11, q17_27]; omega))
        · have q17_27 := (bI_0.mp q)
          clear q
          refine VR.blk h [(.aload_n 0, 1)] (by decide +kernel) (pc' := 21) (ls' := [some (.ref am), some (.int (nI (w))), some (.int (nI (op))), some (.int (bI (hoF A w op k))), some (.int (nI (k)))]) (st' := [.ref am]) rfl rfl (Nat.le_of_ble_eq_true rfl) ?_
          refine VR.getA h (j := 43) rfl (Or.inl wf_RX11_117) (by decide +kernel) ?_
          refine VR.blk h [(.bipush 16, 2), (.iload_n 1, 1)] (by decide +kernel) (pc' := 27) (ls' := [some (.ref am), some (.int (nI (w))), some (.int (nI (op))), some (.int (bI (hoF A w op k))), some (.int (nI (k)))]) (st' := [.int (nI (w)), .int (nI (16)), .ref (ad 43)]) rfl rfl (Nat.le_of_ble_eq_true rfl) ?_
          refine VR.mulN h (by decide +kernel) (Nat.le_of_ble_eq_true rfl) ?_
          refine VR.blk h [(.iload 4, 2)] (by decide +kernel) (pc' := 30) (ls' := [some (.ref am), some (.int (nI (w))), some (.int (nI (op))), some (.int (bI (hoF A w op k))), some (.int (nI (k)))]) (st' := [.int (nI (k)), .int (nI (16 * w)), .ref (ad 43)]) rfl rfl (Nat.le_of_ble_eq_true rfl) ?_
          refine VR.addN h (by decide +kernel) (Nat.le_of_ble_eq_true rfl) ?_
          refine VR.iald h (j := 43) (i := (16 * w) + k) rfl rfl (by show _ < 48; omega) (by decide +kernel) (v := (nI (tn A 43 ((16 * w) + k)))) (mval_1 rfl) ?_
          have nb43 := hB.2 43 ((16 * w) + k)
          refine VR.blk h [(.iload_n 2, 1)] (by decide +kernel) (pc' := 33) (ls' := [some (.ref am), some (.int (nI (w))), some (.int (nI (op))), some (.int (bI (hoF A w op k))), some (.int (nI (k)))]) (st' := [.int (nI (op)), .int (nI (tn A 43 ((16 * w) + k)))]) rfl rfl (Nat.le_of_ble_eq_true rfl) ?_
          refine VR.icmp_ne h (off := 7) (by decide +kernel) (tgt := 40) (by decide) (fun q => ?_) (fun q => ?_)
          · have q33_45 : ¬ _ := (fun z => q ((nI_eq (by omega) (by omega)).mpr z))
            clear q
            refine VR.blk h [(.iconst 0, 1)] (by decide +kernel) (pc' := 41) (ls' := [some (.ref am), some (.int (nI (w))), some (.int (nI (op))), some (.int (bI (hoF A w op k))), some (.int (nI (k)))]) (st' := [.int (nI (0))]) rfl rfl (Nat.le_of_ble_eq_true rfl) ?_
            refine VR.top (v' := .int (bI false)) (by rw [bI_f]) ?_
            exact join41 _ (by first | (simp [q13_11, q17_27, q33_45]; done) | (simp [q13_11, q17_27, q33_45]; omega))
          · have q33_45 := ((nI_eq (by omega) (by omega)).mp q)
            clear q
            refine VR.blk h [(.iconst 1, 1)] (by decide +kernel) (pc' := 37) (ls' := [some (.ref am), some (.int (nI (w))), some (.int (nI (op))), some (.int (bI (hoF A w op k))), some (.int (nI (k)))]) (st' := [.int (nI (1))]) rfl rfl (Nat.le_of_ble_eq_true rfl) ?_
            refine VR.goto h (off := 4) (tgt := 41) (by decide +kernel) (by decide) ?_
            refine VR.top (v' := .int (bI true)) (by rw [bI_t]) ?_
            exact join41 _ (by first | (simp [q13_11, q17_27, q33_45]; done) | (simp [q13_11, q17_27, q33_45]; omega))
  refine VR.eqL (ls' := [some (.ref am), some (.int (nI (w))), some (.int (nI (op))), some (.int (bI (hoF A w op 0))), some (.int (nI (0)))]) (by rw [hoF, bI_f]) ?_
  exact loop5 _ 0 rfl (Nat.zero_le _)

set_option maxRecDepth 100000 in
set_option maxHeartbeats 4000000 in
theorem r_hasRoom {l : Launch} {D : va_G} {tc : Nat → ClassId} {am : Nat} {ad : Nat → Nat} (hls : l.stackTraces = false) (A : TS) (w key K : Nat) (hw : w < 3) (hm : tn A 44 w ≤ 16) (hrec : ∀ k, k < tn A 44 w → tn A 43 (16 * w + k) < 600) (hs : 0 < tf A 2) (hs2 : tf A 2 ≤ 4) (hB : NB K A) (hK : K < 2000000000) (hk : key < 2000000000) : RM l D tc am ad yX11_hasRoom cX11_hasRoom 7 (some .boolean) 0 [.ref am, .int (nI (w)), .int (nI (key))] A (some (.int (bI (roomF A w key)))) (A) := by
  refine RM.of hls (by decide +kernel) (by simp [Value.category]) (Nat.le_of_ble_eq_true rfl) (fun A0 p e9 s m args below meth c S0 sz Q h hr hA hQ => ?_)
  have nf2 := hB.1 2
  have nf3 := hB.1 3
  refine VR.eqL (ls' := [some (.ref am), some (.int (nI (w))), some (.int (nI (key))), none, none, none, none]) rfl ?_
  refine VR.blk h [(.iconst 0, 1), (.istore_n 3, 1), (.iconst 1, 1), (.istore 4, 2), (.iconst 0, 1), (.istore 5, 2)] (by decide +kernel) (pc' := 8) (ls' := [some (.ref am), some (.int (nI (w))), some (.int (nI (key))), some (.int (nI (0))), some (.int (nI (1))), some (.int (nI (0))), none]) (st' := []) rfl rfl (Nat.le_of_ble_eq_true rfl) ?_
  have loop8 : ∀ (t k : Nat), tn A 44 w - k = t → k ≤ tn A 44 w → VR l D tc A0 p e9 (rmd 0 0 0) s m args below meth c 7 Q am ad A 8 [some (.ref am), some (.int (nI (w))), some (.int (nI (key))), some (.int (nI (hiF A w key k))), some (.int (bI (hrF A w key k))), some (.int (nI (k))), none] [] := by
    intro t; induction t using Nat.strongRecOn with
    | _ t ih8 =>
      intro k ht8 hk8
      have hik := hiF_le A w key k
      refine VR.blk h [(.iload 5, 2), (.aload_n 0, 1)] (by decide +kernel) (pc' := 11) (ls' := [some (.ref am), some (.int (nI (w))), some (.int (nI (key))), some (.int (nI (hiF A w key k))), some (.int (bI (hrF A w key k))), some (.int (nI (k))), none]) (st' := [.ref am, .int (nI (k))]) rfl rfl (Nat.le_of_ble_eq_true rfl) ?_
      refine VR.getA h (j := 44) rfl (Or.inl wf_RX11_120) (by decide +kernel) ?_
      refine VR.blk h [(.iload_n 1, 1)] (by decide +kernel) (pc' := 15) (ls' := [some (.ref am), some (.int (nI (w))), some (.int (nI (key))), some (.int (nI (hiF A w key k))), some (.int (bI (hrF A w key k))), some (.int (nI (k))), none]) (st' := [.int (nI (w)), .ref (ad 44), .int (nI (k))]) rfl rfl (Nat.le_of_ble_eq_true rfl) ?_
      refine VR.iald h (j := 44) (i := w) rfl rfl (by show _ < 3; omega) (by decide +kernel) (v := (nI (tn A 44 w))) (mval_1 rfl) ?_
      have nb13 := hB.2 44 w
      refine VR.icmp_ge h (off := 70) (by decide +kernel) (tgt := 86) (by decide) (fun q => ?_) (fun q => ?_)
      · have q16_14 := ((nI_leI (by omega) (by omega)).mp q)
        clear q
        refine VR.blk h [(.iload 4, 2)] (by decide +kernel) (pc' := 88) (ls' := [some (.ref am), some (.int (nI (w))), some (.int (nI (key))), some (.int (nI (hiF A w key k))), some (.int (bI (hrF A w key k))), some (.int (nI (k))), none]) (st' := [.int (bI (hrF A w key k))]) rfl rfl (Nat.le_of_ble_eq_true rfl) ?_
        refine VR.if_eq h (off := 15) (by decide +kernel) (tgt := 103) (by decide) (fun q => ?_) (fun q => ?_)
        · have q88_18 := (bI_0.mp q)
          clear q
          refine VR.blk h [(.iconst 0, 1)] (by decide +kernel) (pc' := 104) (ls' := [some (.ref am), some (.int (nI (w))), some (.int (nI (key))), some (.int (nI (hiF A w key k))), some (.int (bI (hrF A w key k))), some (.int (nI (k))), none]) (st' := [.int (nI (0))]) rfl rfl (Nat.le_of_ble_eq_true rfl) ?_
          refine VR.top (v' := .int (bI false)) (by rw [bI_f]) ?_
          exact VR.iret h hA hQ hr (bI_nar _) (by obtain rfl : k = tn A 44 w := (by omega); simp [roomF, q88_18]) rfl (by decide +kernel)
        · have q88_18 := (bI_1 (fun z => q (bI_0.mpr z)))
          clear q
          refine VR.blk h [(.iload_n 3, 1), (.aload_n 0, 1)] (by decide +kernel) (pc' := 93) (ls' := [some (.ref am), some (.int (nI (w))), some (.int (nI (key))), some (.int (nI (hiF A w key k))), some (.int (bI (hrF A w key k))), some (.int (nI (k))), none]) (st' := [.ref am, .int (nI (hiF A w key k))]) rfl rfl (Nat.le_of_ble_eq_true rfl) ?_
          refine VR.getI h (j := 3) rfl (Or.inl wf_RX11_157) (by decide +kernel) (v := tf A 3) rfl ?_
          refine VR.icmp_ge h (off := 7) (by decide +kernel) (tgt := 103) (by decide) (fun q => ?_) (fun q => ?_)
          · have q96_28 := ((nI_leI (by omega) (by omega)).mp q)
            clear q
            refine VR.blk h [(.iconst 0, 1)] (by decide +kernel) (pc' := 104) (ls' := [some (.ref am), some (.int (nI (w))), some (.int (nI (key))), some (.int (nI (hiF A w key k))), some (.int (bI (hrF A w key k))), some (.int (nI (k))), none]) (st' := [.int (nI (0))]) rfl rfl (Nat.le_of_ble_eq_true rfl) ?_
            refine VR.top (v' := .int (bI false)) (by rw [bI_f]) ?_
            exact VR.iret h hA hQ hr (bI_nar _) (by obtain rfl : k = tn A 44 w := (by omega); rw [roomF, q88_18, Bool.true_and]; first | rw [decide_eq_false (by omega)] | rw [decide_eq_true (by omega)]) rfl (by decide +kernel)
          · have q96_28 : ¬ _ := (fun z => q ((nI_leI (by omega) (by omega)).mpr z))
            clear q
            refine VR.blk h [(.iconst 1, 1)] (by decide +kernel) (pc' := 100) (ls' := [some (.ref am), some (.int (nI (w))), some (.int (nI (key))), some (.int (nI (hiF A w key k))), some (.int (bI (hrF A w key k))), some (.int (nI (k))), none]) (st' := [.int (nI (1))]) rfl rfl (Nat.le_of_ble_eq_true rfl) ?_
            refine VR.goto h (off := 4) (tgt := 104) (by decide +kernel) (by decide) ?_
            refine VR.top (v' := .int (bI true)) (by rw [bI_t]) ?_
            exact VR.iret h hA hQ hr (bI_nar _) (by obtain rfl : k = tn A 44 w := (by omega); rw [roomF, q88_18, Bool.true_and]; first | rw [decide_eq_false (by omega)] | rw [decide_eq_true (by omega)]) rfl (by decide +kernel)
      · have q16_14 : ¬ _ := (fun z => q ((nI_leI (by omega) (by omega)).mpr z))
        clear q
        refine VR.blk h [(.aload_n 0, 1)] (by decide +kernel) (pc' := 20) (ls' := [some (.ref am), some (.int (nI (w))), some (.int (nI (key))), some (.int (nI (hiF A w key k))), some (.int (bI (hrF A w key k))), some (.int (nI (k))), none]) (st' := [.ref am]) rfl rfl (Nat.le_of_ble_eq_true rfl) ?_
        refine VR.getA h (j := 8) rfl (Or.inl wf_RX11_23) (by decide +kernel) ?_
        refine VR.blk h [(.aload_n 0, 1)] (by decide +kernel) (pc' := 24) (ls' := [some (.ref am), some (.int (nI (w))), some (.int (nI (key))), some (.int (nI (hiF A w key k))), some (.int (bI (hrF A w key k))), some (.int (nI (k))), none]) (st' := [.ref am, .ref (ad 8)]) rfl rfl (Nat.le_of_ble_eq_true rfl) ?_
        refine VR.getA h (j := 43) rfl (Or.inl wf_RX11_117) (by decide +kernel) ?_
        refine VR.blk h [(.bipush 16, 2), (.iload_n 1, 1)] (by decide +kernel) (pc' := 30) (ls' := [some (.ref am), some (.int (nI (w))), some (.int (nI (key))), some (.int (nI (hiF A w key k))), some (.int (bI (hrF A w key k))), some (.int (nI (k))), none]) (st' := [.int (nI (w)), .int (nI (16)), .ref (ad 43), .ref (ad 8)]) rfl rfl (Nat.le_of_ble_eq_true rfl) ?_
        refine VR.mulN h (by decide +kernel) (Nat.le_of_ble_eq_true rfl) ?_
        refine VR.blk h [(.iload 5, 2)] (by decide +kernel) (pc' := 33) (ls' := [some (.ref am), some (.int (nI (w))), some (.int (nI (key))), some (.int (nI (hiF A w key k))), some (.int (bI (hrF A w key k))), some (.int (nI (k))), none]) (st' := [.int (nI (k)), .int (nI (16 * w)), .ref (ad 43), .ref (ad 8)]) rfl rfl (Nat.le_of_ble_eq_true rfl) ?_
        refine VR.addN h (by decide +kernel) (Nat.le_of_ble_eq_true rfl) ?_
        have hop := hrec k (by omega)
        refine VR.iald h (j := 43) (i := (16 * w) + k) rfl rfl (by show _ < 48; omega) (by decide +kernel) (v := (nI (tn A 43 ((16 * w) + k)))) (mval_1 rfl) ?_
        have nb52 := hB.2 43 ((16 * w) + k)
        refine VR.iald h (j := 8) (i := tn A 43 ((16 * w) + k)) rfl rfl (by show _ < 600; omega) (by decide +kernel) (v := (nI (tn A 8 (tn A 43 ((16 * w) + k))))) (mval_1 rfl) ?_
        have nb54 := hB.2 8 (tn A 43 ((16 * w) + k))
        refine VR.blk h [(.istore 6, 2)] (by decide +kernel) (pc' := 38) (ls' := [some (.ref am), some (.int (nI (w))), some (.int (nI (key))), some (.int (nI (hiF A w key k))), some (.int (bI (hrF A w key k))), some (.int (nI (k))), some (.int (nI (tn A 8 (tn A 43 ((16 * w) + k)))))]) (st' := []) rfl rfl (Nat.le_of_ble_eq_true rfl) ?_
        have join54 : ∀ bb54 : Bool, bb54 = (hrF A w key k && decide (tn A 8 (tn A 43 (16 * w + k)) ≠ key)) → VR l D tc A0 p e9 (rmd 0 0 0) s m args below meth c 7 Q am ad A 54 [some (.ref am), some (.int (nI (w))), some (.int (nI (key))), some (.int (nI (hiF A w key k))), some (.int (bI (hrF A w key k))), some (.int (nI (k))), some (.int (nI (tn A 8 (tn A 43 ((16 * w) + k)))))] [.int (bI (bb54))] := by
          intro bb54 hb54; subst hb54
          refine VR.blk h [(.istore 4, 2), (.iload_n 3, 1)] (by decide +kernel) (pc' := 57) (ls' := [some (.ref am), some (.int (nI (w))), some (.int (nI (key))), some (.int (nI (hiF A w key k))), some (.int (bI ((hrF A w key k && decide (tn A 8 (tn A 43 (16 * w + k)) ≠ key))))), some (.int (nI (k))), some (.int (nI (tn A 8 (tn A 43 ((16 * w) + k)))))]) (st' := [.int (nI (hiF A w key k))]) rfl rfl (Nat.le_of_ble_eq_true rfl) ?_
          have join78 : ∀ bb78 : Nat, bb78 = (if tn A 8 (tn A 43 (16 * w + k)) % tf A 2 = key % tf A 2 then 1 else 0) → VR l D tc A0 p e9 (rmd 0 0 0) s m args below meth c 7 Q am ad A 78 [some (.ref am), some (.int (nI (w))), some (.int (nI (key))), some (.int (nI (hiF A w key k))), some (.int (bI ((hrF A w key k && decide (tn A 8 (tn A 43 (16 * w + k)) ≠ key))))), some (.int (nI (k))), some (.int (nI (tn A 8 (tn A 43 ((16 * w) + k)))))] [.int (nI (bb78)), .int (nI (hiF A w key k))] := by
            intro bb78 hb78; subst hb78
            refine VR.addN h (by decide +kernel) (Nat.le_of_ble_eq_true rfl) ?_
            refine VR.blk h [(.istore_n 3, 1)] (by decide +kernel) (pc' := 80) (ls' := [some (.ref am), some (.int (nI (w))), some (.int (nI (key))), some (.int (nI ((hiF A w key k) + ((if tn A 8 (tn A 43 (16 * w + k)) % tf A 2 = key % tf A 2 then 1 else 0))))), some (.int (bI ((hrF A w key k && decide (tn A 8 (tn A 43 (16 * w + k)) ≠ key))))), some (.int (nI (k))), some (.int (nI (tn A 8 (tn A 43 ((16 * w) + k)))))]) (st' := []) rfl rfl (Nat.le_of_ble_eq_true rfl) ?_
            refine VR.incN h (x := k) (i := 5) (by decide +kernel) rfl (Nat.le_of_ble_eq_true rfl) ?_
            refine VR.eqL (ls' := [some (.ref am), some (.int (nI (w))), some (.int (nI (key))), some (.int (nI ((hiF A w key k) + ((if tn A 8 (tn A 43 (16 * w + k)) % tf A 2 = key % tf A 2 then 1 else 0))))), some (.int (bI ((hrF A w key k && decide (tn A 8 (tn A 43 (16 * w + k)) ≠ key))))), some (.int (nI (k + 1))), some (.int (nI (tn A 8 (tn A 43 ((16 * w) + k)))))]) rfl ?_
            refine VR.goto h (off := -75) (tgt := 8) (by decide +kernel) (by decide) ?_
            refine VR.drop 6 (ls' := [some (.ref am), some (.int (nI (w))), some (.int (nI (key))), some (.int (nI ((hiF A w key k) + ((if tn A 8 (tn A 43 (16 * w + k)) % tf A 2 = key % tf A 2 then 1 else 0))))), some (.int (bI ((hrF A w key k && decide (tn A 8 (tn A 43 (16 * w + k)) ≠ key))))), some (.int (nI (k + 1))), none]) rfl ?_
            refine VR.eqL (ls' := [some (.ref am), some (.int (nI (w))), some (.int (nI (key))), some (.int (nI (hiF A w key ((k + 1))))), some (.int (bI (hrF A w key ((k + 1))))), some (.int (nI ((k + 1)))), none]) (by simp only [hiF, hrF]) ?_
            exact ih8 (tn A 44 w - (k + 1)) (by omega) (k + 1) rfl (by omega)
          refine VR.blk h [(.iload 6, 2), (.aload_n 0, 1)] (by decide +kernel) (pc' := 60) (ls' := [some (.ref am), some (.int (nI (w))), some (.int (nI (key))), some (.int (nI (hiF A w key k))), some (.int (bI ((hrF A w key k && decide (tn A 8 (tn A 43 (16 * w + k)) ≠ key))))), some (.int (nI (k))), some (.int (nI (tn A 8 (tn A 43 ((16 * w) + k)))))]) (st' := [.ref am, .int (nI (tn A 8 (tn A 43 ((16 * w) + k)))), .int (nI (hiF A w key k))]) rfl rfl (Nat.le_of_ble_eq_true rfl) ?_
          refine VR.getI h (j := 2) rfl (Or.inl wf_RX11_154) (by decide +kernel) (v := tf A 2) rfl ?_
          refine VR.remN h (by decide +kernel) (by omega) (by omega) (by omega) ?_
          have rm72 := Nat.mod_lt (tn A 8 (tn A 43 ((16 * w) + k))) (show 0 < tf A 2 by omega)
          refine VR.blk h [(.iload_n 2, 1), (.aload_n 0, 1)] (by decide +kernel) (pc' := 66) (ls' := [some (.ref am), some (.int (nI (w))), some (.int (nI (key))), some (.int (nI (hiF A w key k))), some (.int (bI ((hrF A w key k && decide (tn A 8 (tn A 43 (16 * w + k)) ≠ key))))), some (.int (nI (k))), some (.int (nI (tn A 8 (tn A 43 ((16 * w) + k)))))]) (st' := [.ref am, .int (nI (key)), .int (nI ((tn A 8 (tn A 43 ((16 * w) + k))) % (tf A 2))), .int (nI (hiF A w key k))]) rfl rfl (Nat.le_of_ble_eq_true rfl) ?_
          refine VR.getI h (j := 2) rfl (Or.inl wf_RX11_154) (by decide +kernel) (v := tf A 2) rfl ?_
          refine VR.remN h (by decide +kernel) (by omega) (by omega) (by omega) ?_
          have rm76 := Nat.mod_lt key (show 0 < tf A 2 by omega)
          refine VR.icmp_ne h (off := 7) (by decide +kernel) (tgt := 77) (by decide) (fun q => ?_) (fun q => ?_)
          · have q70_77 : ¬ _ := (fun z => q ((nI_eq (by omega) (by omega)).mpr z))
            clear q
            refine VR.blk h [(.iconst 0, 1)] (by decide +kernel) (pc' := 78) (ls' := [some (.ref am), some (.int (nI (w))), some (.int (nI (key))), some (.int (nI (hiF A w key k))), some (.int (bI ((hrF A w key k && decide (tn A 8 (tn A 43 (16 * w + k)) ≠ key))))), some (.int (nI (k))), some (.int (nI (tn A 8 (tn A 43 ((16 * w) + k)))))]) (st' := [.int (nI (0)), .int (nI (hiF A w key k))]) rfl rfl (Nat.le_of_ble_eq_true rfl) ?_
            exact join78 _ (by first | exact (if_pos q70_77).symm | exact (if_neg q70_77).symm | exact (if_neg (by omega)).symm | exact (if_pos (by omega)).symm | exact (if_neg (by rw [q70_77]; decide)).symm)
          · have q70_77 := ((nI_eq (by omega) (by omega)).mp q)
            clear q
            refine VR.blk h [(.iconst 1, 1)] (by decide +kernel) (pc' := 74) (ls' := [some (.ref am), some (.int (nI (w))), some (.int (nI (key))), some (.int (nI (hiF A w key k))), some (.int (bI ((hrF A w key k && decide (tn A 8 (tn A 43 (16 * w + k)) ≠ key))))), some (.int (nI (k))), some (.int (nI (tn A 8 (tn A 43 ((16 * w) + k)))))]) (st' := [.int (nI (1)), .int (nI (hiF A w key k))]) rfl rfl (Nat.le_of_ble_eq_true rfl) ?_
            refine VR.goto h (off := 4) (tgt := 78) (by decide +kernel) (by decide) ?_
            exact join78 _ (by first | exact (if_pos q70_77).symm | exact (if_neg q70_77).symm | exact (if_neg (by omega)).symm | exact (if_pos (by omega)).symm | exact (if_neg (by rw [q70_77]; decide)).symm)
        refine VR.blk h [(.iload 4, 2)] (by decide +kernel) (pc' := 40) (ls' := [some (.ref am), some (.int (nI (w))), some (.int (nI (key))), some (.int (nI (hiF A w key k))), some (.int (bI (hrF A w key k))), some (.int (nI (k))), some (.int (nI (tn A 8 (tn A 43 ((16 * w) + k)))))]) (st' := [.int (bI (hrF A w key k))]) rfl rfl (Nat.le_of_ble_eq_true rfl) ?_
        refine VR.if_eq h (off := 13) (by decide +kernel) (tgt := 53) (by decide) (fun q => ?_) (fun q => ?_)
        · have q40_88 := (bI_0.mp q)
          clear q
          refine VR.blk h [(.iconst 0, 1)] (by decide +kernel) (pc' := 54) (ls' := [some (.ref am), some (.int (nI (w))), some (.int (nI (key))), some (.int (nI (hiF A w key k))), some (.int (bI (hrF A w key k))), some (.int (nI (k))), some (.int (nI (tn A 8 (tn A 43 ((16 * w) + k)))))]) (st' := [.int (nI (0))]) rfl rfl (Nat.le_of_ble_eq_true rfl) ?_
          refine VR.top (v' := .int (bI false)) (by rw [bI_f]) ?_
          exact join54 _ (by first | (simp [q16_14, q40_88]; done) | (simp [q16_14, q40_88]; omega))
        · have q40_88 := (bI_1 (fun z => q (bI_0.mpr z)))
          clear q
          refine VR.blk h [(.iload 6, 2), (.iload_n 2, 1)] (by decide +kernel) (pc' := 46) (ls' := [some (.ref am), some (.int (nI (w))), some (.int (nI (key))), some (.int (nI (hiF A w key k))), some (.int (bI (hrF A w key k))), some (.int (nI (k))), some (.int (nI (tn A 8 (tn A 43 ((16 * w) + k)))))]) (st' := [.int (nI (key)), .int (nI (tn A 8 (tn A 43 ((16 * w) + k))))]) rfl rfl (Nat.le_of_ble_eq_true rfl) ?_
          refine VR.icmp_eq h (off := 7) (by decide +kernel) (tgt := 53) (by decide) (fun q => ?_) (fun q => ?_)
          · have q46_97 := ((nI_eq (by omega) (by omega)).mp q)
            clear q
            refine VR.blk h [(.iconst 0, 1)] (by decide +kernel) (pc' := 54) (ls' := [some (.ref am), some (.int (nI (w))), some (.int (nI (key))), some (.int (nI (hiF A w key k))), some (.int (bI (hrF A w key k))), some (.int (nI (k))), some (.int (nI (tn A 8 (tn A 43 ((16 * w) + k)))))]) (st' := [.int (nI (0))]) rfl rfl (Nat.le_of_ble_eq_true rfl) ?_
            refine VR.top (v' := .int (bI false)) (by rw [bI_f]) ?_
            exact join54 _ (by first | (simp [q16_14, q40_88, q46_97]; done) | (simp [q16_14, q40_88, q46_97]; omega))
          · have q46_97 : ¬ _ := (fun z => q ((nI_eq (by omega) (by omega)).mpr z))
            clear q
            refine VR.blk h [(.iconst 1, 1)] (by decide +kernel) (pc' := 50) (ls' := [some (.ref am), some (.int (nI (w))), some (.int (nI (key))), some (.int (nI (hiF A w key k))), some (.int (bI (hrF A w key k))), some (.int (nI (k))), some (.int (nI (tn A 8 (tn A 43 ((16 * w) + k)))))]) (st' := [.int (nI (1))]) rfl rfl (Nat.le_of_ble_eq_true rfl) ?_
            refine VR.goto h (off := 4) (tgt := 54) (by decide +kernel) (by decide) ?_
            refine VR.top (v' := .int (bI true)) (by rw [bI_t]) ?_
            exact join54 _ (by first | (simp [q16_14, q40_88, q46_97]; done) | (simp [q16_14, q40_88, q46_97]; omega))
  refine VR.eqL (ls' := [some (.ref am), some (.int (nI (w))), some (.int (nI (key))), some (.int (nI (hiF A w key 0))), some (.int (bI (hrF A w key 0))), some (.int (nI (0))), none]) (by rw [hrF, hiF, bI_t]) ?_
  exact loop8 _ 0 rfl (Nat.zero_le _)

set_option maxRecDepth 100000 in
set_option maxHeartbeats 4000000 in
theorem r_readsReset {l : Launch} {D : va_G} {tc : Nat → ClassId} {am : Nat} {ad : Nat → Nat} (hls : l.stackTraces = false) (A : TS) (w e K : Nat) (hw : w < 3) (h2 : e ≤ K) (hB : NB K A) (hK : K < 2000000000) : RM l D tc am ad yX11_readsReset cX11_readsReset 3 (none) 0 [.ref am, .int (nI (w)), .int (nI (e))] A (none) (rstF A w e) := by
  refine RM.of hls (by decide +kernel) (by simp [Value.category]) (Nat.le_of_ble_eq_true rfl) (fun A0 p e9 s m args below meth c S0 sz Q h hr hA hQ => ?_)
  refine VR.eqL (ls' := [some (.ref am), some (.int (nI (w))), some (.int (nI (e)))]) rfl ?_
  refine VR.blk h [(.aload_n 0, 1)] (by decide +kernel) (pc' := 1) (ls' := [some (.ref am), some (.int (nI (w))), some (.int (nI (e)))]) (st' := [.ref am]) rfl rfl (Nat.le_of_ble_eq_true rfl) ?_
  refine VR.getA h (j := 41) rfl (Or.inl wf_RX11_111) (by decide +kernel) ?_
  refine VR.blk h [(.iload_n 1, 1)] (by decide +kernel) (pc' := 5) (ls' := [some (.ref am), some (.int (nI (w))), some (.int (nI (e)))]) (st' := [.int (nI (w)), .ref (ad 41)]) rfl rfl (Nat.le_of_ble_eq_true rfl) ?_
  refine VR.iald h (j := 41) (i := w) rfl rfl (by show _ < 3; omega) (by decide +kernel) (v := (nI (tn A 41 w))) (mval_1 rfl) ?_
  have nb5 := hB.2 41 w
  refine VR.blk h [(.iload_n 2, 1)] (by decide +kernel) (pc' := 7) (ls' := [some (.ref am), some (.int (nI (w))), some (.int (nI (e)))]) (st' := [.int (nI (e)), .int (nI (tn A 41 w))]) rfl rfl (Nat.le_of_ble_eq_true rfl) ?_
  refine VR.icmp_gt h (off := 22) (by decide +kernel) (tgt := 29) (by decide) (fun q => ?_) (fun q => ?_)
  · have q7_7 := ((nI_ltI (by omega) (by omega)).mp q)
    clear q
    exact VR.vret h hA hQ hr rfl (by rw [rstF, if_pos (Or.inl q7_7)]) (by decide +kernel)
  · have q7_7 : ¬ _ := (fun z => q ((nI_ltI (by omega) (by omega)).mpr z))
    clear q
    refine VR.blk h [(.aload_n 0, 1)] (by decide +kernel) (pc' := 11) (ls' := [some (.ref am), some (.int (nI (w))), some (.int (nI (e)))]) (st' := [.ref am]) rfl rfl (Nat.le_of_ble_eq_true rfl) ?_
    refine VR.getA h (j := 41) rfl (Or.inl wf_RX11_111) (by decide +kernel) ?_
    refine VR.blk h [(.iload_n 1, 1)] (by decide +kernel) (pc' := 15) (ls' := [some (.ref am), some (.int (nI (w))), some (.int (nI (e)))]) (st' := [.int (nI (w)), .ref (ad 41)]) rfl rfl (Nat.le_of_ble_eq_true rfl) ?_
    refine VR.iald h (j := 41) (i := w) rfl rfl (by show _ < 3; omega) (by decide +kernel) (v := (nI (tn A 41 w))) (mval_1 rfl) ?_
    have nb17 := hB.2 41 w
    refine VR.blk h [(.iload_n 2, 1)] (by decide +kernel) (pc' := 17) (ls' := [some (.ref am), some (.int (nI (w))), some (.int (nI (e)))]) (st' := [.int (nI (e)), .int (nI (tn A 41 w))]) rfl rfl (Nat.le_of_ble_eq_true rfl) ?_
    refine VR.icmp_ne h (off := 13) (by decide +kernel) (tgt := 30) (by decide) (fun q => ?_) (fun q => ?_)
    · have q17_19 : ¬ _ := (fun z => q ((nI_eq (by omega) (by omega)).mpr z))
      clear q
      refine VR.blk h [(.aload_n 0, 1)] (by decide +kernel) (pc' := 31) (ls' := [some (.ref am), some (.int (nI (w))), some (.int (nI (e)))]) (st' := [.ref am]) rfl rfl (Nat.le_of_ble_eq_true rfl) ?_
      refine VR.getA h (j := 41) rfl (Or.inl wf_RX11_111) (by decide +kernel) ?_
      refine VR.blk h [(.iload_n 1, 1), (.iload_n 2, 1)] (by decide +kernel) (pc' := 36) (ls' := [some (.ref am), some (.int (nI (w))), some (.int (nI (e)))]) (st' := [.int (nI (e)), .int (nI (w)), .ref (ad 41)]) rfl rfl (Nat.le_of_ble_eq_true rfl) ?_
      refine VR.iastN h (j := 41) (i := w) rfl rfl (by show _ < 3; omega) (by decide +kernel) ?_
      refine VR.blk h [(.aload_n 0, 1)] (by decide +kernel) (pc' := 38) (ls' := [some (.ref am), some (.int (nI (w))), some (.int (nI (e)))]) (st' := [.ref am]) rfl rfl (Nat.le_of_ble_eq_true rfl) ?_
      refine VR.getA h (j := 42) rfl (Or.inl wf_RX11_114) (by decide +kernel) ?_
      refine VR.blk h [(.iload_n 1, 1), (.iconst 0, 1)] (by decide +kernel) (pc' := 43) (ls' := [some (.ref am), some (.int (nI (w))), some (.int (nI (e)))]) (st' := [.int (nI (0)), .int (nI (w)), .ref (ad 42)]) rfl rfl (Nat.le_of_ble_eq_true rfl) ?_
      refine VR.bast h (j := 42) (i := w) (v := false) rfl rfl (by show _ < 3; omega) (by decide +kernel) ?_
      refine VR.blk h [(.aload_n 0, 1)] (by decide +kernel) (pc' := 45) (ls' := [some (.ref am), some (.int (nI (w))), some (.int (nI (e)))]) (st' := [.ref am]) rfl rfl (Nat.le_of_ble_eq_true rfl) ?_
      refine VR.getA h (j := 44) rfl (Or.inl wf_RX11_120) (by decide +kernel) ?_
      refine VR.blk h [(.iload_n 1, 1), (.iconst 0, 1)] (by decide +kernel) (pc' := 50) (ls' := [some (.ref am), some (.int (nI (w))), some (.int (nI (e)))]) (st' := [.int (nI (0)), .int (nI (w)), .ref (ad 44)]) rfl rfl (Nat.le_of_ble_eq_true rfl) ?_
      refine VR.iastN h (j := 44) (i := w) rfl rfl (by show _ < 3; omega) (by decide +kernel) ?_
      exact VR.vret h hA hQ hr rfl (by rw [rstF, if_neg (fun z => z.elim (fun a => absurd a (by omega)) (fun a => q17_19 a.1))]) (by decide +kernel)
    · have q17_19 := ((nI_eq (by omega) (by omega)).mp q)
      clear q
      refine VR.blk h [(.aload_n 0, 1)] (by decide +kernel) (pc' := 21) (ls' := [some (.ref am), some (.int (nI (w))), some (.int (nI (e)))]) (st' := [.ref am]) rfl rfl (Nat.le_of_ble_eq_true rfl) ?_
      refine VR.getA h (j := 42) rfl (Or.inl wf_RX11_114) (by decide +kernel) ?_
      refine VR.blk h [(.iload_n 1, 1)] (by decide +kernel) (pc' := 25) (ls' := [some (.ref am), some (.int (nI (w))), some (.int (nI (e)))]) (st' := [.int (nI (w)), .ref (ad 42)]) rfl rfl (Nat.le_of_ble_eq_true rfl) ?_
      refine VR.bald h (j := 42) (i := w) rfl rfl (by show _ < 3; omega) (by decide +kernel) (v := (bI (tb A 42 w))) (mval_4 rfl) ?_
      refine VR.if_ne h (off := 4) (by decide +kernel) (tgt := 30) (by decide) (fun q => ?_) (fun q => ?_)
      · have q26_41 := (bI_1 (fun z => q (bI_0.mpr z)))
        clear q
        refine VR.blk h [(.aload_n 0, 1)] (by decide +kernel) (pc' := 31) (ls' := [some (.ref am), some (.int (nI (w))), some (.int (nI (e)))]) (st' := [.ref am]) rfl rfl (Nat.le_of_ble_eq_true rfl) ?_
        refine VR.getA h (j := 41) rfl (Or.inl wf_RX11_111) (by decide +kernel) ?_
        refine VR.blk h [(.iload_n 1, 1), (.iload_n 2, 1)] (by decide +kernel) (pc' := 36) (ls' := [some (.ref am), some (.int (nI (w))), some (.int (nI (e)))]) (st' := [.int (nI (e)), .int (nI (w)), .ref (ad 41)]) rfl rfl (Nat.le_of_ble_eq_true rfl) ?_
        refine VR.iastN h (j := 41) (i := w) rfl rfl (by show _ < 3; omega) (by decide +kernel) ?_
        refine VR.blk h [(.aload_n 0, 1)] (by decide +kernel) (pc' := 38) (ls' := [some (.ref am), some (.int (nI (w))), some (.int (nI (e)))]) (st' := [.ref am]) rfl rfl (Nat.le_of_ble_eq_true rfl) ?_
        refine VR.getA h (j := 42) rfl (Or.inl wf_RX11_114) (by decide +kernel) ?_
        refine VR.blk h [(.iload_n 1, 1), (.iconst 0, 1)] (by decide +kernel) (pc' := 43) (ls' := [some (.ref am), some (.int (nI (w))), some (.int (nI (e)))]) (st' := [.int (nI (0)), .int (nI (w)), .ref (ad 42)]) rfl rfl (Nat.le_of_ble_eq_true rfl) ?_
        refine VR.bast h (j := 42) (i := w) (v := false) rfl rfl (by show _ < 3; omega) (by decide +kernel) ?_
        refine VR.blk h [(.aload_n 0, 1)] (by decide +kernel) (pc' := 45) (ls' := [some (.ref am), some (.int (nI (w))), some (.int (nI (e)))]) (st' := [.ref am]) rfl rfl (Nat.le_of_ble_eq_true rfl) ?_
        refine VR.getA h (j := 44) rfl (Or.inl wf_RX11_120) (by decide +kernel) ?_
        refine VR.blk h [(.iload_n 1, 1), (.iconst 0, 1)] (by decide +kernel) (pc' := 50) (ls' := [some (.ref am), some (.int (nI (w))), some (.int (nI (e)))]) (st' := [.int (nI (0)), .int (nI (w)), .ref (ad 44)]) rfl rfl (Nat.le_of_ble_eq_true rfl) ?_
        refine VR.iastN h (j := 44) (i := w) rfl rfl (by show _ < 3; omega) (by decide +kernel) ?_
        exact VR.vret h hA hQ hr rfl (by rw [rstF, if_neg (fun z => z.elim (fun a => absurd a (by omega)) (fun a => by have z2 := a.2; rw [q26_41] at z2; cases z2))]) (by decide +kernel)
      · have q26_41 := (bI_0.mp q)
        clear q
        exact VR.vret h hA hQ hr rfl (by rw [rstF, if_pos (Or.inr ⟨q17_19, q26_41⟩)]) (by decide +kernel)

set_option maxRecDepth 100000 in
set_option maxHeartbeats 4000000 in
theorem r_ends {l : Launch} {D : va_G} {tc : Nat → ClassId} {am : Nat} {ad : Nat → Nat} (hls : l.stackTraces = false) (A : TS) (c9 : Nat) (v : Int32) (K : Nat) (hc : c9 < 4) (h0 : tn A 16 c9 ≠ 0) (h6 : tn A 16 c9 ≤ 600) (hB : NB K A) (hK : K < 2000000000) : RM l D tc am ad yX11_ends cX11_ends 3 (none) 0 [.ref am, .int (nI (c9)), .int (v)] A (none) (endF A c9 v) := by
  refine RM.of hls (by decide +kernel) (by simp [Value.category]) (Nat.le_of_ble_eq_true rfl) (fun A0 p e9 s m args below meth c S0 sz Q h hr hA hQ => ?_)
  refine VR.eqL (ls' := [some (.ref am), some (.int (nI (c9))), some (.int (v))]) rfl ?_
  refine VR.blk h [(.aload_n 0, 1), (.dup, 1)] (by decide +kernel) (pc' := 2) (ls' := [some (.ref am), some (.int (nI (c9))), some (.int (v))]) (st' := [.ref am, .ref am]) rfl rfl (Nat.le_of_ble_eq_true rfl) ?_
  refine VR.getI h (j := 14) rfl (Or.inl wf_RX11_232) (by decide +kernel) (v := tf A 14) rfl ?_
  refine VR.blk h [(.iconst 1, 1)] (by decide +kernel) (pc' := 6) (ls' := [some (.ref am), some (.int (nI (c9))), some (.int (v))]) (st' := [.int (nI (1)), .int (nI (tf A 14)), .ref am]) rfl rfl (Nat.le_of_ble_eq_true rfl) ?_
  refine VR.addN h (by decide +kernel) (Nat.le_of_ble_eq_true rfl) ?_
  refine VR.putI h (j := 14) rfl rfl rfl (Or.inl wf_RX11_232) (by decide +kernel) ?_
  refine VR.blk h [(.aload_n 0, 1)] (by decide +kernel) (pc' := 11) (ls' := [some (.ref am), some (.int (nI (c9))), some (.int (v))]) (st' := [.ref am]) rfl rfl (Nat.le_of_ble_eq_true rfl) ?_
  refine VR.getA h (j := 11) rfl (Or.inl wf_RX11_32) (by decide +kernel) ?_
  refine VR.blk h [(.aload_n 0, 1)] (by decide +kernel) (pc' := 15) (ls' := [some (.ref am), some (.int (nI (c9))), some (.int (v))]) (st' := [.ref am, .ref (ad 11)]) rfl rfl (Nat.le_of_ble_eq_true rfl) ?_
  refine VR.getA h (j := 16) rfl (Or.inl wf_RX11_38) (by decide +kernel) ?_
  refine VR.blk h [(.iload_n 1, 1)] (by decide +kernel) (pc' := 19) (ls' := [some (.ref am), some (.int (nI (c9))), some (.int (v))]) (st' := [.int (nI (c9)), .ref (ad 16), .ref (ad 11)]) rfl rfl (Nat.le_of_ble_eq_true rfl) ?_
  refine VR.iald h (j := 16) (i := c9) rfl rfl (by show _ < 4; omega) (by decide +kernel) (v := (oI (tn A 16 c9))) (mval_2 rfl) ?_
  have nb12 := hB.2 16 c9
  refine VR.blk h [(.aload_n 0, 1)] (by decide +kernel) (pc' := 21) (ls' := [some (.ref am), some (.int (nI (c9))), some (.int (v))]) (st' := [.ref am, .int (oI (tn A 16 c9)), .ref (ad 11)]) rfl rfl (Nat.le_of_ble_eq_true rfl) ?_
  refine VR.getI h (j := 14) rfl (Or.inl wf_RX11_232) (by decide +kernel) (v := (tf A 14) + 1) rfl ?_
  refine VR.st2 (v' := .int (nI ((tn A 16 c9) - 1))) (oI_pos (by omega)) ?_
  refine VR.top (v' := .int (oI (((tf A 14) + 1) + 1))) (by rw [oI_s]) ?_
  refine VR.iastO h (j := 11) (i := (tn A 16 c9) - 1) rfl rfl (by show _ < 600; omega) (by decide +kernel) ?_
  refine VR.blk h [(.aload_n 0, 1)] (by decide +kernel) (pc' := 26) (ls' := [some (.ref am), some (.int (nI (c9))), some (.int (v))]) (st' := [.ref am]) rfl rfl (Nat.le_of_ble_eq_true rfl) ?_
  refine VR.getA h (j := 12) rfl (Or.inl wf_RX11_35) (by decide +kernel) ?_
  refine VR.blk h [(.aload_n 0, 1)] (by decide +kernel) (pc' := 30) (ls' := [some (.ref am), some (.int (nI (c9))), some (.int (v))]) (st' := [.ref am, .ref (ad 12)]) rfl rfl (Nat.le_of_ble_eq_true rfl) ?_
  refine VR.getA h (j := 16) rfl (Or.inl wf_RX11_38) (by decide +kernel) ?_
  refine VR.blk h [(.iload_n 1, 1)] (by decide +kernel) (pc' := 34) (ls' := [some (.ref am), some (.int (nI (c9))), some (.int (v))]) (st' := [.int (nI (c9)), .ref (ad 16), .ref (ad 12)]) rfl rfl (Nat.le_of_ble_eq_true rfl) ?_
  refine VR.iald h (j := 16) (i := c9) rfl rfl (by show _ < 4; omega) (by decide +kernel) (v := (oI (tn A 16 c9))) (mval_2 rfl) ?_
  have nb24 := hB.2 16 c9
  refine VR.blk h [(.iload_n 2, 1)] (by decide +kernel) (pc' := 36) (ls' := [some (.ref am), some (.int (nI (c9))), some (.int (v))]) (st' := [.int (v), .int (oI (tn A 16 c9)), .ref (ad 12)]) rfl rfl (Nat.le_of_ble_eq_true rfl) ?_
  refine VR.st2 (v' := .int (nI ((tn A 16 c9) - 1))) (oI_pos (by omega)) ?_
  refine VR.iastR h (j := 12) (i := (tn A 16 c9) - 1) rfl rfl (by show _ < 600; omega) (by decide +kernel) ?_
  refine VR.blk h [(.aload_n 0, 1), (.dup, 1)] (by decide +kernel) (pc' := 39) (ls' := [some (.ref am), some (.int (nI (c9))), some (.int (v))]) (st' := [.ref am, .ref am]) rfl rfl (Nat.le_of_ble_eq_true rfl) ?_
  refine VR.getI h (j := 15) rfl (Or.inl wf_RX11_235) (by decide +kernel) (v := tf A 15) rfl ?_
  refine VR.blk h [(.iconst 1, 1)] (by decide +kernel) (pc' := 43) (ls' := [some (.ref am), some (.int (nI (c9))), some (.int (v))]) (st' := [.int (nI (1)), .int (nI (tf A 15)), .ref am]) rfl rfl (Nat.le_of_ble_eq_true rfl) ?_
  refine VR.addN h (by decide +kernel) (Nat.le_of_ble_eq_true rfl) ?_
  refine VR.putI h (j := 15) rfl rfl rfl (Or.inl wf_RX11_235) (by decide +kernel) ?_
  exact VR.vret h hA hQ hr rfl rfl (by decide +kernel)

set_option maxRecDepth 100000 in
set_option maxHeartbeats 4000000 in
theorem r_begins {l : Launch} {D : va_G} {tc : Nat → ClassId} {am : Nat} {ad : Nat → Nat} (hls : l.stackTraces = false) (A : TS) (c9 K : Nat) (hc : c9 < 4) (h0 : tn A 16 c9 ≠ 0) (h6 : tn A 16 c9 ≤ 600) (h7 : tn A 16 c9 ≤ K) (hf : tf A 1 ≤ 3) (hl : tf A 53 ≤ 250) (hK9 : 7300 ≤ K) (hB : NB K A) (hK : K < 1999990000) : RM l D tc am ad yX11_begins cX11_begins 4 (none) 2 [.ref am, .int (nI (c9))] A (none) (begF A c9) := by
  refine RM.of hls (by decide +kernel) (by simp [Value.category]) (Nat.le_of_ble_eq_true rfl) (fun A0 p e9 s m args below meth c S0 sz Q h hr hA hQ => ?_)
  have nb17 := hB.2 17 c9
  have nb16 := hB.2 16 c9
  have nb6 := hB.2 6 (tn A 16 c9 - 1)
  have hB1 : NB (K + 1) (begA A c9) := ((hB.sn (by omega)).sb).send (by omega) (by omega) (by omega) (by omega) (by omega) (by show tn A 6 _ ≤ _; omega) (by omega)
  refine VR.eqL (ls' := [some (.ref am), some (.int (nI (c9))), none, none]) rfl ?_
  refine VR.blk h [(.aload_n 0, 1)] (by decide +kernel) (pc' := 1) (ls' := [some (.ref am), some (.int (nI (c9))), none, none]) (st' := [.ref am]) rfl rfl (Nat.le_of_ble_eq_true rfl) ?_
  refine VR.getA h (j := 18) rfl (Or.inl wf_RX11_44) (by decide +kernel) ?_
  refine VR.blk h [(.iload_n 1, 1), (.iconst 0, 1)] (by decide +kernel) (pc' := 6) (ls' := [some (.ref am), some (.int (nI (c9))), none, none]) (st' := [.int (nI (0)), .int (nI (c9)), .ref (ad 18)]) rfl rfl (Nat.le_of_ble_eq_true rfl) ?_
  refine VR.iastN h (j := 18) (i := c9) rfl rfl (by show _ < 4; omega) (by decide +kernel) ?_
  refine VR.blk h [(.aload_n 0, 1)] (by decide +kernel) (pc' := 8) (ls' := [some (.ref am), some (.int (nI (c9))), none, none]) (st' := [.ref am]) rfl rfl (Nat.le_of_ble_eq_true rfl) ?_
  refine VR.getA h (j := 19) rfl (Or.inl wf_RX11_47) (by decide +kernel) ?_
  refine VR.blk h [(.iload_n 1, 1), (.iconst 0, 1)] (by decide +kernel) (pc' := 13) (ls' := [some (.ref am), some (.int (nI (c9))), none, none]) (st' := [.int (nI (0)), .int (nI (c9)), .ref (ad 19)]) rfl rfl (Nat.le_of_ble_eq_true rfl) ?_
  refine VR.bast h (j := 19) (i := c9) (v := false) rfl rfl (by show _ < 4; omega) (by decide +kernel) ?_
  refine VR.blk h [(.aload_n 0, 1)] (by decide +kernel) (pc' := 15) (ls' := [some (.ref am), some (.int (nI (c9))), none, none]) (st' := [.ref am]) rfl rfl (Nat.le_of_ble_eq_true rfl) ?_
  refine VR.getA h (j := 16) rfl (Or.inl wf_RX11_38) (by decide +kernel) ?_
  refine VR.blk h [(.iload_n 1, 1)] (by decide +kernel) (pc' := 19) (ls' := [some (.ref am), some (.int (nI (c9))), none, none]) (st' := [.int (nI (c9)), .ref (ad 16)]) rfl rfl (Nat.le_of_ble_eq_true rfl) ?_
  refine VR.iald h (j := 16) (i := c9) rfl rfl (by show _ < 4; omega) (by decide +kernel) (v := (oI (tn A 16 c9))) (mval_2 rfl) ?_
  have nb17 := hB.2 16 c9
  refine VR.blk h [(.istore_n 2, 1)] (by decide +kernel) (pc' := 21) (ls' := [some (.ref am), some (.int (nI (c9))), some (.int (oI (tn A 16 c9))), none]) (st' := []) rfl rfl (Nat.le_of_ble_eq_true rfl) ?_
  refine VR.eqL (ls' := [some (.ref am), some (.int (nI (c9))), some (.int (nI ((tn A 16 c9) - 1))), none]) (by rw [oI_posI (by omega)]) ?_
  refine VR.blk h [(.aload_n 0, 1), (.iconst 0, 1), (.aload_n 0, 1)] (by decide +kernel) (pc' := 24) (ls' := [some (.ref am), some (.int (nI (c9))), some (.int (nI ((tn A 16 c9) - 1))), none]) (st' := [.ref am, .int (nI (0)), .ref am]) rfl rfl (Nat.le_of_ble_eq_true rfl) ?_
  refine VR.getA h (j := 17) rfl (Or.inl wf_RX11_41) (by decide +kernel) ?_
  refine VR.blk h [(.iload_n 1, 1)] (by decide +kernel) (pc' := 28) (ls' := [some (.ref am), some (.int (nI (c9))), some (.int (nI ((tn A 16 c9) - 1))), none]) (st' := [.int (nI (c9)), .ref (ad 17), .int (nI (0)), .ref am]) rfl rfl (Nat.le_of_ble_eq_true rfl) ?_
  refine VR.iald h (j := 17) (i := c9) rfl rfl (by show _ < 4; omega) (by decide +kernel) (v := (nI (tn A 17 c9))) (mval_1 rfl) ?_
  have nb24 := hB.2 17 c9
  refine VR.blk h [(.iload_n 1, 1), (.iload_n 2, 1)] (by decide +kernel) (pc' := 31) (ls' := [some (.ref am), some (.int (nI (c9))), some (.int (nI ((tn A 16 c9) - 1))), none]) (st' := [.int (nI ((tn A 16 c9) - 1)), .int (nI (c9)), .int (nI (tn A 17 c9)), .int (nI (0)), .ref am]) rfl rfl (Nat.le_of_ble_eq_true rfl) ?_
  refine VR.call h (np := 4) (st := []) (r_sendOp hls (sb (sn A 18 c9 0) 19 c9 false) 0 (tn A 17 c9) c9 (tn A 16 c9 - 1) K (by omega) (by omega) (by omega) (by omega) (by omega) hl ((hB.sn (by omega)).sb) (by omega)) wc_X11_sendOp wn_RX11 (Or.inl wm_RX11_228) wi_X11_sendOp we_X11_sendOp (by decide +kernel) rfl (by decide) (by decide) (by simp [Value.category]) (by decide +kernel) rfl ?_
  refine VR.blk h [(.aload_n 0, 1)] (by decide +kernel) (pc' := 35) (ls' := [some (.ref am), some (.int (nI (c9))), some (.int (nI ((tn A 16 c9) - 1))), none]) (st' := [.ref am]) rfl rfl (Nat.le_of_ble_eq_true rfl) ?_
  refine VR.getA h (j := 7) rfl (Or.inl wf_RX11_20) (by decide +kernel) ?_
  refine VR.blk h [(.iload_n 2, 1)] (by decide +kernel) (pc' := 39) (ls' := [some (.ref am), some (.int (nI (c9))), some (.int (nI ((tn A 16 c9) - 1))), none]) (st' := [.int (nI ((tn A 16 c9) - 1)), .ref (ad 7)]) rfl rfl (Nat.le_of_ble_eq_true rfl) ?_
  have nb7 := hB.2 7 (tn A 16 c9 - 1)
  refine VR.iald h (j := 7) (i := (tn A 16 c9) - 1) rfl rfl (by show _ < 600; omega) (by decide +kernel) (v := (nI (tn A 7 (tn A 16 c9 - 1)))) ((mval_1 rfl).trans (congrArg nI ((send_keep ..).2.1 7 _ (by decide)))) ?_
  have nb32 := hB.2 7 (tn A 16 c9 - 1)
  refine VR.callS h (np := 1) (st := []) (r_isUpdate hls (begA A c9) (tn A 7 (tn A 16 c9 - 1)) (by omega)) wc_X11_isUpdate wn_RX11 (Or.inl wm_RX11_197) wt_X11_isUpdate (by decide +kernel) rfl (by decide) (by decide) (by simp [Value.category]) (by decide +kernel) rfl ?_
  refine VR.if_eq h (off := 32) (by decide +kernel) (tgt := 75) (by decide) (fun q => ?_) (fun q => ?_)
  · have q43_34 := (bI_0.mp q)
    clear q
    exact VR.vret h hA hQ hr rfl (by first | rw [begF, if_pos (of_decide_eq_true q43_34), show k = tf A 1 by omega] | rw [begF, if_neg (of_decide_eq_false q43_34)]) (by decide +kernel)
  · have q43_34 := (bI_1 (fun z => q (bI_0.mpr z)))
    clear q
    refine VR.blk h [(.iconst 0, 1), (.istore_n 3, 1)] (by decide +kernel) (pc' := 48) (ls' := [some (.ref am), some (.int (nI (c9))), some (.int (nI ((tn A 16 c9) - 1))), some (.int (nI (0)))]) (st' := []) rfl rfl (Nat.le_of_ble_eq_true rfl) ?_
    have loop48 : ∀ (t k : Nat), tf A 1 - k = t → k ≤ tf A 1 → VR l D tc A0 p e9 (rmd 2 0 0) s m args below meth c 4 Q am ad (begL (begA A c9) (tn A 17 c9) (tn A 16 c9 - 1) k) 48 [some (.ref am), some (.int (nI (c9))), some (.int (nI (tn A 16 c9 - 1))), some (.int (nI (k)))] [] := by
      intro t; induction t using Nat.strongRecOn with
      | _ t ih48 =>
        intro k ht48 hk48
        refine VR.blk h [(.iload_n 3, 1), (.aload_n 0, 1)] (by decide +kernel) (pc' := 50) (ls' := [some (.ref am), some (.int (nI (c9))), some (.int (nI (tn A 16 c9 - 1))), some (.int (nI (k)))]) (st' := [.ref am, .int (nI (k))]) rfl rfl (Nat.le_of_ble_eq_true rfl) ?_
        refine VR.getI h (j := 1) rfl (Or.inl wf_RX11_151) (by decide +kernel) (v := tf A 1) (((begL_keep _ _ _ k).1 1 (by decide) (by decide)).trans ((send_keep ..).1 1 (by decide) (by decide))) ?_
        refine VR.icmp_ge h (off := 22) (by decide +kernel) (tgt := 75) (by decide) (fun q => ?_) (fun q => ?_)
        · have q53_47 := ((nI_leI (by omega) (by omega)).mp q)
          clear q
          exact VR.vret h hA hQ hr rfl (by first | rw [begF, if_pos (of_decide_eq_true q43_34), show k = tf A 1 by omega] | rw [begF, if_neg (of_decide_eq_false q43_34)]) (by decide +kernel)
        · have q53_47 : ¬ _ := (fun z => q ((nI_leI (by omega) (by omega)).mpr z))
          clear q
          refine VR.blk h [(.aload_n 0, 1), (.iconst 1, 1), (.aload_n 0, 1)] (by decide +kernel) (pc' := 59) (ls' := [some (.ref am), some (.int (nI (c9))), some (.int (nI (tn A 16 c9 - 1))), some (.int (nI (k)))]) (st' := [.ref am, .int (nI (1)), .ref am]) rfl rfl (Nat.le_of_ble_eq_true rfl) ?_
          refine VR.getA h (j := 17) rfl (Or.inl wf_RX11_41) (by decide +kernel) ?_
          refine VR.blk h [(.iload_n 1, 1)] (by decide +kernel) (pc' := 63) (ls' := [some (.ref am), some (.int (nI (c9))), some (.int (nI (tn A 16 c9 - 1))), some (.int (nI (k)))]) (st' := [.int (nI (c9)), .ref (ad 17), .int (nI (1)), .ref am]) rfl rfl (Nat.le_of_ble_eq_true rfl) ?_
          refine VR.iald h (j := 17) (i := c9) rfl rfl (by show _ < 4; omega) (by decide +kernel) (v := (nI (tn A 17 c9))) ((mval_1 rfl).trans (congrArg nI (((begL_keep _ _ _ k).2.1 17 c9 (by decide)).trans ((send_keep ..).2.1 17 c9 (by decide))))) ?_
          have nb57 := hB.2 17 c9
          refine VR.blk h [(.iload_n 3, 1), (.iload_n 2, 1)] (by decide +kernel) (pc' := 66) (ls' := [some (.ref am), some (.int (nI (c9))), some (.int (nI (tn A 16 c9 - 1))), some (.int (nI (k)))]) (st' := [.int (nI (tn A 16 c9 - 1)), .int (nI (k)), .int (nI (tn A 17 c9)), .int (nI (1)), .ref am]) rfl rfl (Nat.le_of_ble_eq_true rfl) ?_
          refine VR.call h (np := 4) (st := []) (r_sendOp hls (begL (begA A c9) (tn A 17 c9) (tn A 16 c9 - 1) k) 1 (tn A 17 c9) k (tn A 16 c9 - 1) (K + 5) (by omega) (by omega) (by omega) (by omega) (by omega) (begL_le (A := begA A c9) (send_le _ _ _ _ _ _ _ _ hl) k) (begL_NB (K := K + 1) hB1 (by omega) (by omega) (by omega) k (by omega) |>.mono (by omega)) (by omega)) wc_X11_sendOp wn_RX11 (Or.inl wm_RX11_228) wi_X11_sendOp we_X11_sendOp (by decide +kernel) rfl (by decide) (by decide) (by simp [Value.category]) (by decide +kernel) (by simp) ?_
          refine VR.incN h (x := k) (i := 3) (by decide +kernel) rfl (Nat.le_of_ble_eq_true rfl) ?_
          refine VR.eqL (ls' := [some (.ref am), some (.int (nI (c9))), some (.int (nI (tn A 16 c9 - 1))), some (.int (nI (k + 1)))]) rfl ?_
          refine VR.goto h (off := -24) (tgt := 48) (by decide +kernel) (by decide) ?_
          refine VR.eqL (ls' := [some (.ref am), some (.int (nI (c9))), some (.int (nI (tn A 16 c9 - 1))), some (.int (nI ((k + 1))))]) rfl ?_
          exact ih48 (tf A 1 - (k + 1)) (by omega) (k + 1) rfl (by omega)
    refine VR.eqL (ls' := [some (.ref am), some (.int (nI (c9))), some (.int (nI (tn A 16 c9 - 1))), some (.int (nI (0)))]) rfl ?_
    exact loop48 _ 0 rfl (Nat.zero_le _)
