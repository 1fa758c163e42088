set_option maxRecDepth 100000 in
set_option maxHeartbeats 4000000 in
theorem r_readsRecord {l : Launch} {D : va_G} {tc : Nat → ClassId} {am : Nat} {ad : Nat → Nat} (hls : l.stackTraces = false) (A : TS) (w e op K : Nat) (hw : w < 3) (hm : tn A 44 w ≤ 16) (hrec : ∀ k, k < tn A 44 w → tn A 43 (16 * w + k) < 600) (ho : op < 600) (ho2 : op < K) (h2 : e ≤ K) (hs : 0 < tf A 2) (hs2 : tf A 2 ≤ 4) (hfit : holdF A w op = false → roomF A w (tn A 8 op) = true → tn A 44 w < 16) (hl : tf A 53 ≤ 250) (hK9 : 7300 ≤ K) (hB : NB K A) (hK : K < 1999990000) : RM l D tc am ad yX11_readsRecord cX11_readsRecord 5 (none) 2 [.ref am, .int (nI (w)), .int (nI (e)), .int (nI (op))] A (none) (recF A w e op) := by
  refine RM.of hls (by decide +kernel) (by simp [Value.category]) (Nat.le_of_ble_eq_true rfl) (fun A0 p e9 s m args below meth c S0 sz Q h hr hA hQ => ?_)
  have hso : (if recB A w e op = true then 3 else 4) ≤ K := by split <;> omega
  have hrec16 : recB A w e op = true → holdF A w op = false → tn A 44 w < 16 := fun a b => hfit b (by simp only [recB, b, Bool.false_or, Bool.and_eq_true] at a; exact a.2.2)
  have nb8 := hB.2 8 op
  have nb6 := hB.2 6 op
  have nb5 := hB.2 5 op
  have nb44 := hB.2 44 w
  refine VR.eqL (ls' := [some (.ref am), some (.int (nI (w))), some (.int (nI (e))), some (.int (nI (op))), none]) rfl ?_
  have join47 : ∀ bb47 : Bool, bb47 = (recB A w e op) → VR l D tc A0 p e9 (rmd 2 0 0) s m args below meth c 5 Q am ad A 47 [some (.ref am), some (.int (nI (w))), some (.int (nI (e))), some (.int (nI (op))), none] [.int (bI (bb47))] := by
    intro bb47 hb47; subst hb47
    refine VR.blk h [(.istore 4, 2), (.iload 4, 2)] (by decide +kernel) (pc' := 51) (ls' := [some (.ref am), some (.int (nI (w))), some (.int (nI (e))), some (.int (nI (op))), some (.int (bI ((recB A w e op))))]) (st' := [.int (bI ((recB A w e op)))]) rfl rfl (Nat.le_of_ble_eq_true rfl) ?_
    refine VR.if_eq h (off := 39) (by decide +kernel) (tgt := 90) (by decide) (fun q => ?_) (fun q => ?_)
    · have q51_10 := (bI_0.mp q)
      clear q
      refine VR.blk h [(.aload_n 0, 1)] (by decide +kernel) (pc' := 91) (ls' := [some (.ref am), some (.int (nI (w))), some (.int (nI (e))), some (.int (nI (op))), some (.int (bI ((recB A w e op))))]) (st' := [.ref am]) rfl rfl (Nat.le_of_ble_eq_true rfl) ?_
      have join101 : ∀ bb101 : Nat, bb101 = (if recB A w e op = true then 3 else 4) → VR l D tc A0 p e9 (rmd 2 0 0) s m args below meth c 5 Q am ad A 101 [some (.ref am), some (.int (nI (w))), some (.int (nI (e))), some (.int (nI (op))), some (.int (bI ((recB A w e op))))] [.int (nI (bb101)), .ref am] := by
        intro bb101 hb101; subst hb101
        refine VR.blk h [(.iload_n 2, 1), (.aload_n 0, 1)] (by decide +kernel) (pc' := 103) (ls' := [some (.ref am), some (.int (nI (w))), some (.int (nI (e))), some (.int (nI (op))), some (.int (bI ((recB A w e op))))]) (st' := [.ref am, .int (nI (e)), .int (nI ((if recB A w e op = true then 3 else 4))), .ref am]) rfl rfl (Nat.le_of_ble_eq_true rfl) ?_
        refine VR.getA h (j := 5) rfl (Or.inl wf_RX11_13) (by decide +kernel) ?_
        refine VR.blk h [(.iload_n 3, 1)] (by decide +kernel) (pc' := 107) (ls' := [some (.ref am), some (.int (nI (w))), some (.int (nI (e))), some (.int (nI (op))), some (.int (bI ((recB A w e op))))]) (st' := [.int (nI (op)), .ref (ad 5), .int (nI (e)), .int (nI ((if recB A w e op = true then 3 else 4))), .ref am]) rfl rfl (Nat.le_of_ble_eq_true rfl) ?_
        refine VR.iald h (j := 5) (i := op) rfl rfl (by show _ < 600; omega) (by decide +kernel) (v := (nI (tn A 5 op))) (mval_1 rfl) ?_
        have nb20 := hB.2 5 op
        refine VR.blk h [(.iload_n 3, 1), (.aload_n 0, 1)] (by decide +kernel) (pc' := 110) (ls' := [some (.ref am), some (.int (nI (w))), some (.int (nI (e))), some (.int (nI (op))), some (.int (bI ((recB A w e op))))]) (st' := [.ref am, .int (nI (op)), .int (nI (tn A 5 op)), .int (nI (e)), .int (nI ((if recB A w e op = true then 3 else 4))), .ref am]) rfl rfl (Nat.le_of_ble_eq_true rfl) ?_
        refine VR.getA h (j := 6) rfl (Or.inl wf_RX11_17) (by decide +kernel) ?_
        refine VR.blk h [(.iload_n 3, 1)] (by decide +kernel) (pc' := 114) (ls' := [some (.ref am), some (.int (nI (w))), some (.int (nI (e))), some (.int (nI (op))), some (.int (bI ((recB A w e op))))]) (st' := [.int (nI (op)), .ref (ad 6), .int (nI (op)), .int (nI (tn A 5 op)), .int (nI (e)), .int (nI ((if recB A w e op = true then 3 else 4))), .ref am]) rfl rfl (Nat.le_of_ble_eq_true rfl) ?_
        refine VR.iald h (j := 6) (i := op) rfl rfl (by show _ < 600; omega) (by decide +kernel) (v := (nI (tn A 6 op))) (mval_1 rfl) ?_
        have nb25 := hB.2 6 op
        refine VR.blk h [(.iload_n 1, 1), (.iconst 0, 1), (.iconst 0, 1)] (by decide +kernel) (pc' := 118) (ls' := [some (.ref am), some (.int (nI (w))), some (.int (nI (e))), some (.int (nI (op))), some (.int (bI ((recB A w e op))))]) (st' := [.int (nI (0)), .int (nI (0)), .int (nI (w)), .int (nI (tn A 6 op)), .int (nI (op)), .int (nI (tn A 5 op)), .int (nI (e)), .int (nI ((if recB A w e op = true then 3 else 4))), .ref am]) rfl rfl (Nat.le_of_ble_eq_true rfl) ?_
        refine VR.call h (np := 8) (st := []) (r_send hls A ((if recB A w e op = true then 3 else 4)) e (tn A 5 op) (op + 1) (tn A 6 op) w (nI 0) false K (by omega) (by omega) (by omega) (by omega) (by omega) (by omega) hl hB (by omega)) wc_X11_send wn_RX11 (Or.inl wm_RX11_176) wi_X11_send we_X11_send (by decide +kernel) rfl (by decide) (by decide) (by simp [Value.category]) (by decide +kernel) (by simp [oI_s, bI_f, bI_t]) ?_
        exact VR.vret h hA hQ hr rfl (by simp only [recF, recA, q51_10, and_self, and_true, true_and, and_false, false_and, if_true, if_false, reduceCtorEq]) (by decide +kernel)
      refine VR.blk h [(.iload 4, 2)] (by decide +kernel) (pc' := 93) (ls' := [some (.ref am), some (.int (nI (w))), some (.int (nI (e))), some (.int (nI (op))), some (.int (bI ((recB A w e op))))]) (st' := [.int (bI ((recB A w e op))), .ref am]) rfl rfl (Nat.le_of_ble_eq_true rfl) ?_
      refine VR.if_eq h (off := 7) (by decide +kernel) (tgt := 100) (by decide) (fun q => ?_) (fun q => ?_)
      · have q93_30 := (bI_0.mp q)
        clear q
        refine VR.blk h [(.iconst 4, 1)] (by decide +kernel) (pc' := 101) (ls' := [some (.ref am), some (.int (nI (w))), some (.int (nI (e))), some (.int (nI (op))), some (.int (bI ((recB A w e op))))]) (st' := [.int (nI (4)), .ref am]) rfl rfl (Nat.le_of_ble_eq_true rfl) ?_
        exact join101 _ (by first | exact (if_pos q93_30).symm | exact (if_neg q93_30).symm | exact (if_neg (by omega)).symm | exact (if_pos (by omega)).symm | exact (if_neg (by rw [q93_30]; decide)).symm)
      · have q93_30 := (bI_1 (fun z => q (bI_0.mpr z)))
        clear q
        refine VR.blk h [(.iconst 3, 1)] (by decide +kernel) (pc' := 97) (ls' := [some (.ref am), some (.int (nI (w))), some (.int (nI (e))), some (.int (nI (op))), some (.int (bI ((recB A w e op))))]) (st' := [.int (nI (3)), .ref am]) rfl rfl (Nat.le_of_ble_eq_true rfl) ?_
        refine VR.goto h (off := 4) (tgt := 101) (by decide +kernel) (by decide) ?_
        exact join101 _ (by first | exact (if_pos q93_30).symm | exact (if_neg q93_30).symm | exact (if_neg (by omega)).symm | exact (if_pos (by omega)).symm | exact (if_neg (by rw [q93_30]; decide)).symm)
    · have q51_10 := (bI_1 (fun z => q (bI_0.mpr z)))
      clear q
      refine VR.blk h [(.aload_n 0, 1), (.iload_n 1, 1), (.iload_n 3, 1)] (by decide +kernel) (pc' := 57) (ls' := [some (.ref am), some (.int (nI (w))), some (.int (nI (e))), some (.int (nI (op))), some (.int (bI ((recB A w e op))))]) (st' := [.int (nI (op)), .int (nI (w)), .ref am]) rfl rfl (Nat.le_of_ble_eq_true rfl) ?_
      refine VR.call h (np := 2) (st := []) (r_holds hls A w op K hw hm hB (by omega) ho) wc_X11_holds wn_RX11 (Or.inl wm_RX11_222) wi_X11_holds we_X11_holds (by decide +kernel) rfl (by decide) (by decide) (by simp [Value.category]) (by decide +kernel) rfl ?_
      refine VR.if_ne h (off := 30) (by decide +kernel) (tgt := 90) (by decide) (fun q => ?_) (fun q => ?_)
      · have q60_44 := (bI_1 (fun z => q (bI_0.mpr z)))
        clear q
        refine VR.blk h [(.aload_n 0, 1)] (by decide +kernel) (pc' := 91) (ls' := [some (.ref am), some (.int (nI (w))), some (.int (nI (e))), some (.int (nI (op))), some (.int (bI ((recB A w e op))))]) (st' := [.ref am]) rfl rfl (Nat.le_of_ble_eq_true rfl) ?_
        have join101 : ∀ bb101 : Nat, bb101 = (if recB A w e op = true then 3 else 4) → VR l D tc A0 p e9 (rmd 2 0 0) s m args below meth c 5 Q am ad A 101 [some (.ref am), some (.int (nI (w))), some (.int (nI (e))), some (.int (nI (op))), some (.int (bI ((recB A w e op))))] [.int (nI (bb101)), .ref am] := by
          intro bb101 hb101; subst hb101
          refine VR.blk h [(.iload_n 2, 1), (.aload_n 0, 1)] (by decide +kernel) (pc' := 103) (ls' := [some (.ref am), some (.int (nI (w))), some (.int (nI (e))), some (.int (nI (op))), some (.int (bI ((recB A w e op))))]) (st' := [.ref am, .int (nI (e)), .int (nI ((if recB A w e op = true then 3 else 4))), .ref am]) rfl rfl (Nat.le_of_ble_eq_true rfl) ?_
          refine VR.getA h (j := 5) rfl (Or.inl wf_RX11_13) (by decide +kernel) ?_
          refine VR.blk h [(.iload_n 3, 1)] (by decide +kernel) (pc' := 107) (ls' := [some (.ref am), some (.int (nI (w))), some (.int (nI (e))), some (.int (nI (op))), some (.int (bI ((recB A w e op))))]) (st' := [.int (nI (op)), .ref (ad 5), .int (nI (e)), .int (nI ((if recB A w e op = true then 3 else 4))), .ref am]) rfl rfl (Nat.le_of_ble_eq_true rfl) ?_
          refine VR.iald h (j := 5) (i := op) rfl rfl (by show _ < 600; omega) (by decide +kernel) (v := (nI (tn A 5 op))) (mval_1 rfl) ?_
          have nb54 := hB.2 5 op
          refine VR.blk h [(.iload_n 3, 1), (.aload_n 0, 1)] (by decide +kernel) (pc' := 110) (ls' := [some (.ref am), some (.int (nI (w))), some (.int (nI (e))), some (.int (nI (op))), some (.int (bI ((recB A w e op))))]) (st' := [.ref am, .int (nI (op)), .int (nI (tn A 5 op)), .int (nI (e)), .int (nI ((if recB A w e op = true then 3 else 4))), .ref am]) rfl rfl (Nat.le_of_ble_eq_true rfl) ?_
          refine VR.getA h (j := 6) rfl (Or.inl wf_RX11_17) (by decide +kernel) ?_
          refine VR.blk h [(.iload_n 3, 1)] (by decide +kernel) (pc' := 114) (ls' := [some (.ref am), some (.int (nI (w))), some (.int (nI (e))), some (.int (nI (op))), some (.int (bI ((recB A w e op))))]) (st' := [.int (nI (op)), .ref (ad 6), .int (nI (op)), .int (nI (tn A 5 op)), .int (nI (e)), .int (nI ((if recB A w e op = true then 3 else 4))), .ref am]) rfl rfl (Nat.le_of_ble_eq_true rfl) ?_
          refine VR.iald h (j := 6) (i := op) rfl rfl (by show _ < 600; omega) (by decide +kernel) (v := (nI (tn A 6 op))) (mval_1 rfl) ?_
          have nb59 := hB.2 6 op
          refine VR.blk h [(.iload_n 1, 1), (.iconst 0, 1), (.iconst 0, 1)] (by decide +kernel) (pc' := 118) (ls' := [some (.ref am), some (.int (nI (w))), some (.int (nI (e))), some (.int (nI (op))), some (.int (bI ((recB A w e op))))]) (st' := [.int (nI (0)), .int (nI (0)), .int (nI (w)), .int (nI (tn A 6 op)), .int (nI (op)), .int (nI (tn A 5 op)), .int (nI (e)), .int (nI ((if recB A w e op = true then 3 else 4))), .ref am]) rfl rfl (Nat.le_of_ble_eq_true rfl) ?_
          refine VR.call h (np := 8) (st := []) (r_send hls A ((if recB A w e op = true then 3 else 4)) e (tn A 5 op) (op + 1) (tn A 6 op) w (nI 0) false K (by omega) (by omega) (by omega) (by omega) (by omega) (by omega) hl hB (by omega)) wc_X11_send wn_RX11 (Or.inl wm_RX11_176) wi_X11_send we_X11_send (by decide +kernel) rfl (by decide) (by decide) (by simp [Value.category]) (by decide +kernel) (by simp [oI_s, bI_f, bI_t]) ?_
          exact VR.vret h hA hQ hr rfl (by simp only [recF, recA, q51_10, q60_44, and_self, and_true, true_and, and_false, false_and, if_true, if_false, reduceCtorEq]) (by decide +kernel)
        refine VR.blk h [(.iload 4, 2)] (by decide +kernel) (pc' := 93) (ls' := [some (.ref am), some (.int (nI (w))), some (.int (nI (e))), some (.int (nI (op))), some (.int (bI ((recB A w e op))))]) (st' := [.int (bI ((recB A w e op))), .ref am]) rfl rfl (Nat.le_of_ble_eq_true rfl) ?_
        refine VR.if_eq h (off := 7) (by decide +kernel) (tgt := 100) (by decide) (fun q => ?_) (fun q => ?_)
        · have q93_64 := (bI_0.mp q)
          clear q
          refine VR.blk h [(.iconst 4, 1)] (by decide +kernel) (pc' := 101) (ls' := [some (.ref am), some (.int (nI (w))), some (.int (nI (e))), some (.int (nI (op))), some (.int (bI ((recB A w e op))))]) (st' := [.int (nI (4)), .ref am]) rfl rfl (Nat.le_of_ble_eq_true rfl) ?_
          exact join101 _ (by first | exact (if_pos q93_64).symm | exact (if_neg q93_64).symm | exact (if_neg (by omega)).symm | exact (if_pos (by omega)).symm | exact (if_neg (by rw [q93_64]; decide)).symm)
        · have q93_64 := (bI_1 (fun z => q (bI_0.mpr z)))
          clear q
          refine VR.blk h [(.iconst 3, 1)] (by decide +kernel) (pc' := 97) (ls' := [some (.ref am), some (.int (nI (w))), some (.int (nI (e))), some (.int (nI (op))), some (.int (bI ((recB A w e op))))]) (st' := [.int (nI (3)), .ref am]) rfl rfl (Nat.le_of_ble_eq_true rfl) ?_
          refine VR.goto h (off := 4) (tgt := 101) (by decide +kernel) (by decide) ?_
          exact join101 _ (by first | exact (if_pos q93_64).symm | exact (if_neg q93_64).symm | exact (if_neg (by omega)).symm | exact (if_pos (by omega)).symm | exact (if_neg (by rw [q93_64]; decide)).symm)
      · have q60_44 := (bI_0.mp q)
        clear q
        have h16 := hrec16 q51_10 q60_44
        refine VR.blk h [(.aload_n 0, 1)] (by decide +kernel) (pc' := 64) (ls' := [some (.ref am), some (.int (nI (w))), some (.int (nI (e))), some (.int (nI (op))), some (.int (bI ((recB A w e op))))]) (st' := [.ref am]) rfl rfl (Nat.le_of_ble_eq_true rfl) ?_
        refine VR.getA h (j := 43) rfl (Or.inl wf_RX11_117) (by decide +kernel) ?_
        refine VR.blk h [(.bipush 16, 2), (.iload_n 1, 1)] (by decide +kernel) (pc' := 70) (ls' := [some (.ref am), some (.int (nI (w))), some (.int (nI (e))), some (.int (nI (op))), some (.int (bI ((recB A w e op))))]) (st' := [.int (nI (w)), .int (nI (16)), .ref (ad 43)]) rfl rfl (Nat.le_of_ble_eq_true rfl) ?_
        refine VR.mulN h (by decide +kernel) (Nat.le_of_ble_eq_true rfl) ?_
        refine VR.blk h [(.aload_n 0, 1)] (by decide +kernel) (pc' := 72) (ls' := [some (.ref am), some (.int (nI (w))), some (.int (nI (e))), some (.int (nI (op))), some (.int (bI ((recB A w e op))))]) (st' := [.ref am, .int (nI (16 * w)), .ref (ad 43)]) rfl rfl (Nat.le_of_ble_eq_true rfl) ?_
        refine VR.getA h (j := 44) rfl (Or.inl wf_RX11_120) (by decide +kernel) ?_
        refine VR.blk h [(.iload_n 1, 1)] (by decide +kernel) (pc' := 76) (ls' := [some (.ref am), some (.int (nI (w))), some (.int (nI (e))), some (.int (nI (op))), some (.int (bI ((recB A w e op))))]) (st' := [.int (nI (w)), .ref (ad 44), .int (nI (16 * w)), .ref (ad 43)]) rfl rfl (Nat.le_of_ble_eq_true rfl) ?_
        refine VR.iald h (j := 44) (i := w) rfl rfl (by show _ < 3; omega) (by decide +kernel) (v := (nI (tn A 44 w))) (mval_1 rfl) ?_
        have nb85 := hB.2 44 w
        refine VR.addN h (by decide +kernel) (Nat.le_of_ble_eq_true rfl) ?_
        refine VR.blk h [(.iload_n 3, 1)] (by decide +kernel) (pc' := 79) (ls' := [some (.ref am), some (.int (nI (w))), some (.int (nI (e))), some (.int (nI (op))), some (.int (bI ((recB A w e op))))]) (st' := [.int (nI (op)), .int (nI ((16 * w) + (tn A 44 w))), .ref (ad 43)]) rfl rfl (Nat.le_of_ble_eq_true rfl) ?_
        refine VR.iastN h (j := 43) (i := (16 * w) + (tn A 44 w)) rfl rfl (by show _ < 48; omega) (by decide +kernel) ?_
        refine VR.blk h [(.aload_n 0, 1)] (by decide +kernel) (pc' := 81) (ls' := [some (.ref am), some (.int (nI (w))), some (.int (nI (e))), some (.int (nI (op))), some (.int (bI ((recB A w e op))))]) (st' := [.ref am]) rfl rfl (Nat.le_of_ble_eq_true rfl) ?_
        refine VR.getA h (j := 44) rfl (Or.inl wf_RX11_120) (by decide +kernel) ?_
        refine VR.blk h [(.iload_n 1, 1), (.dup2, 1)] (by decide +kernel) (pc' := 86) (ls' := [some (.ref am), some (.int (nI (w))), some (.int (nI (e))), some (.int (nI (op))), some (.int (bI ((recB A w e op))))]) (st' := [.int (nI (w)), .ref (ad 44), .int (nI (w)), .ref (ad 44)]) rfl rfl (Nat.le_of_ble_eq_true rfl) ?_
        refine VR.iald h (j := 44) (i := w) rfl rfl (by show _ < 3; omega) (by decide +kernel) (v := (nI (tn A 44 w))) (mval_1 rfl) ?_
        have nb93 := hB.2 44 w
        refine VR.blk h [(.iconst 1, 1)] (by decide +kernel) (pc' := 88) (ls' := [some (.ref am), some (.int (nI (w))), some (.int (nI (e))), some (.int (nI (op))), some (.int (bI ((recB A w e op))))]) (st' := [.int (nI (1)), .int (nI (tn A 44 w)), .int (nI (w)), .ref (ad 44)]) rfl rfl (Nat.le_of_ble_eq_true rfl) ?_
        refine VR.addN h (by decide +kernel) (Nat.le_of_ble_eq_true rfl) ?_
        refine VR.iastN h (j := 44) (i := w) rfl rfl (by show _ < 3; omega) (by decide +kernel) ?_
        refine VR.blk h [(.aload_n 0, 1)] (by decide +kernel) (pc' := 91) (ls' := [some (.ref am), some (.int (nI (w))), some (.int (nI (e))), some (.int (nI (op))), some (.int (bI ((recB A w e op))))]) (st' := [.ref am]) rfl rfl (Nat.le_of_ble_eq_true rfl) ?_
        have join101 : ∀ bb101 : Nat, bb101 = (if recB A w e op = true then 3 else 4) → VR l D tc A0 p e9 (rmd 2 0 0) s m args below meth c 5 Q am ad (sn (sn A 43 ((16 * w) + (tn A 44 w)) op) 44 w ((tn A 44 w) + 1)) 101 [some (.ref am), some (.int (nI (w))), some (.int (nI (e))), some (.int (nI (op))), some (.int (bI ((recB A w e op))))] [.int (nI (bb101)), .ref am] := by
          intro bb101 hb101; subst hb101
          refine VR.blk h [(.iload_n 2, 1), (.aload_n 0, 1)] (by decide +kernel) (pc' := 103) (ls' := [some (.ref am), some (.int (nI (w))), some (.int (nI (e))), some (.int (nI (op))), some (.int (bI ((recB A w e op))))]) (st' := [.ref am, .int (nI (e)), .int (nI ((if recB A w e op = true then 3 else 4))), .ref am]) rfl rfl (Nat.le_of_ble_eq_true rfl) ?_
          refine VR.getA h (j := 5) rfl (Or.inl wf_RX11_13) (by decide +kernel) ?_
          refine VR.blk h [(.iload_n 3, 1)] (by decide +kernel) (pc' := 107) (ls' := [some (.ref am), some (.int (nI (w))), some (.int (nI (e))), some (.int (nI (op))), some (.int (bI ((recB A w e op))))]) (st' := [.int (nI (op)), .ref (ad 5), .int (nI (e)), .int (nI ((if recB A w e op = true then 3 else 4))), .ref am]) rfl rfl (Nat.le_of_ble_eq_true rfl) ?_
          refine VR.iald h (j := 5) (i := op) rfl rfl (by show _ < 600; omega) (by decide +kernel) (v := (nI (tn A 5 op))) (mval_1 rfl) ?_
          have nb104 := hB.2 5 op
          refine VR.blk h [(.iload_n 3, 1), (.aload_n 0, 1)] (by decide +kernel) (pc' := 110) (ls' := [some (.ref am), some (.int (nI (w))), some (.int (nI (e))), some (.int (nI (op))), some (.int (bI ((recB A w e op))))]) (st' := [.ref am, .int (nI (op)), .int (nI (tn A 5 op)), .int (nI (e)), .int (nI ((if recB A w e op = true then 3 else 4))), .ref am]) rfl rfl (Nat.le_of_ble_eq_true rfl) ?_
          refine VR.getA h (j := 6) rfl (Or.inl wf_RX11_17) (by decide +kernel) ?_
          refine VR.blk h [(.iload_n 3, 1)] (by decide +kernel) (pc' := 114) (ls' := [some (.ref am), some (.int (nI (w))), some (.int (nI (e))), some (.int (nI (op))), some (.int (bI ((recB A w e op))))]) (st' := [.int (nI (op)), .ref (ad 6), .int (nI (op)), .int (nI (tn A 5 op)), .int (nI (e)), .int (nI ((if recB A w e op = true then 3 else 4))), .ref am]) rfl rfl (Nat.le_of_ble_eq_true rfl) ?_
          refine VR.iald h (j := 6) (i := op) rfl rfl (by show _ < 600; omega) (by decide +kernel) (v := (nI (tn A 6 op))) (mval_1 rfl) ?_
          have nb109 := hB.2 6 op
          refine VR.blk h [(.iload_n 1, 1), (.iconst 0, 1), (.iconst 0, 1)] (by decide +kernel) (pc' := 118) (ls' := [some (.ref am), some (.int (nI (w))), some (.int (nI (e))), some (.int (nI (op))), some (.int (bI ((recB A w e op))))]) (st' := [.int (nI (0)), .int (nI (0)), .int (nI (w)), .int (nI (tn A 6 op)), .int (nI (op)), .int (nI (tn A 5 op)), .int (nI (e)), .int (nI ((if recB A w e op = true then 3 else 4))), .ref am]) rfl rfl (Nat.le_of_ble_eq_true rfl) ?_
          refine VR.call h (np := 8) (st := []) (r_send hls (sn (sn A 43 ((16 * w) + (tn A 44 w)) op) 44 w ((tn A 44 w) + 1)) ((if recB A w e op = true then 3 else 4)) e (tn A 5 op) (op + 1) (tn A 6 op) w (nI 0) false K (by omega) (by omega) (by omega) (by omega) (by omega) (by omega) hl ((hB.sn (by omega)).sn (by omega)) (by omega)) wc_X11_send wn_RX11 (Or.inl wm_RX11_176) wi_X11_send we_X11_send (by decide +kernel) rfl (by decide) (by decide) (by simp [Value.category]) (by decide +kernel) (by simp [oI_s, bI_f, bI_t]) ?_
          exact VR.vret h hA hQ hr rfl (by simp only [recF, recA, q51_10, q60_44, and_self, and_true, true_and, and_false, false_and, if_true, if_false, reduceCtorEq]) (by decide +kernel)
        refine VR.blk h [(.iload 4, 2)] (by decide +kernel) (pc' := 93) (ls' := [some (.ref am), some (.int (nI (w))), some (.int (nI (e))), some (.int (nI (op))), some (.int (bI ((recB A w e op))))]) (st' := [.int (bI ((recB A w e op))), .ref am]) rfl rfl (Nat.le_of_ble_eq_true rfl) ?_
        refine VR.if_eq h (off := 7) (by decide +kernel) (tgt := 100) (by decide) (fun q => ?_) (fun q => ?_)
        · have q93_114 := (bI_0.mp q)
          clear q
          refine VR.blk h [(.iconst 4, 1)] (by decide +kernel) (pc' := 101) (ls' := [some (.ref am), some (.int (nI (w))), some (.int (nI (e))), some (.int (nI (op))), some (.int (bI ((recB A w e op))))]) (st' := [.int (nI (4)), .ref am]) rfl rfl (Nat.le_of_ble_eq_true rfl) ?_
          exact join101 _ (by first | exact (if_pos q93_114).symm | exact (if_neg q93_114).symm | exact (if_neg (by omega)).symm | exact (if_pos (by omega)).symm | exact (if_neg (by rw [q93_114]; decide)).symm)
        · have q93_114 := (bI_1 (fun z => q (bI_0.mpr z)))
          clear q
          refine VR.blk h [(.iconst 3, 1)] (by decide +kernel) (pc' := 97) (ls' := [some (.ref am), some (.int (nI (w))), some (.int (nI (e))), some (.int (nI (op))), some (.int (bI ((recB A w e op))))]) (st' := [.int (nI (3)), .ref am]) rfl rfl (Nat.le_of_ble_eq_true rfl) ?_
          refine VR.goto h (off := 4) (tgt := 101) (by decide +kernel) (by decide) ?_
          exact join101 _ (by first | exact (if_pos q93_114).symm | exact (if_neg q93_114).symm | exact (if_neg (by omega)).symm | exact (if_pos (by omega)).symm | exact (if_neg (by rw [q93_114]; decide)).symm)
  refine VR.blk h [(.aload_n 0, 1)] (by decide +kernel) (pc' := 1) (ls' := [some (.ref am), some (.int (nI (w))), some (.int (nI (e))), some (.int (nI (op))), none]) (st' := [.ref am]) rfl rfl (Nat.le_of_ble_eq_true rfl) ?_
  refine VR.getA h (j := 41) rfl (Or.inl wf_RX11_111) (by decide +kernel) ?_
  refine VR.blk h [(.iload_n 1, 1)] (by decide +kernel) (pc' := 5) (ls' := [some (.ref am), some (.int (nI (w))), some (.int (nI (e))), some (.int (nI (op))), none]) (st' := [.int (nI (w)), .ref (ad 41)]) rfl rfl (Nat.le_of_ble_eq_true rfl) ?_
  refine VR.iald h (j := 41) (i := w) rfl rfl (by show _ < 3; omega) (by decide +kernel) (v := (nI (tn A 41 w))) (mval_1 rfl) ?_
  have nb128 := hB.2 41 w
  refine VR.blk h [(.iload_n 2, 1)] (by decide +kernel) (pc' := 7) (ls' := [some (.ref am), some (.int (nI (w))), some (.int (nI (e))), some (.int (nI (op))), none]) (st' := [.int (nI (e)), .int (nI (tn A 41 w))]) rfl rfl (Nat.le_of_ble_eq_true rfl) ?_
  refine VR.icmp_ne h (off := 39) (by decide +kernel) (tgt := 46) (by decide) (fun q => ?_) (fun q => ?_)
  · have q7_130 : ¬ _ := (fun z => q ((nI_eq (by omega) (by omega)).mpr z))
    clear q
    refine VR.blk h [(.iconst 0, 1)] (by decide +kernel) (pc' := 47) (ls' := [some (.ref am), some (.int (nI (w))), some (.int (nI (e))), some (.int (nI (op))), none]) (st' := [.int (nI (0))]) rfl rfl (Nat.le_of_ble_eq_true rfl) ?_
    refine VR.top (v' := .int (bI false)) (by rw [bI_f]) ?_
    exact join47 _ (by first | (simp [recB, q7_130]; done) | (simp [recB, q7_130]; omega))
  · have q7_130 := ((nI_eq (by omega) (by omega)).mp q)
    clear q
    refine VR.blk h [(.aload_n 0, 1)] (by decide +kernel) (pc' := 11) (ls' := [some (.ref am), some (.int (nI (w))), some (.int (nI (e))), some (.int (nI (op))), none]) (st' := [.ref am]) rfl rfl (Nat.le_of_ble_eq_true rfl) ?_
    refine VR.getA h (j := 42) rfl (Or.inl wf_RX11_114) (by decide +kernel) ?_
    refine VR.blk h [(.iload_n 1, 1)] (by decide +kernel) (pc' := 15) (ls' := [some (.ref am), some (.int (nI (w))), some (.int (nI (e))), some (.int (nI (op))), none]) (st' := [.int (nI (w)), .ref (ad 42)]) rfl rfl (Nat.le_of_ble_eq_true rfl) ?_
    refine VR.bald h (j := 42) (i := w) rfl rfl (by show _ < 3; omega) (by decide +kernel) (v := (bI (tb A 42 w))) (mval_4 rfl) ?_
    refine VR.if_ne h (off := 30) (by decide +kernel) (tgt := 46) (by decide) (fun q => ?_) (fun q => ?_)
    · have q16_142 := (bI_1 (fun z => q (bI_0.mpr z)))
      clear q
      refine VR.blk h [(.iconst 0, 1)] (by decide +kernel) (pc' := 47) (ls' := [some (.ref am), some (.int (nI (w))), some (.int (nI (e))), some (.int (nI (op))), none]) (st' := [.int (nI (0))]) rfl rfl (Nat.le_of_ble_eq_true rfl) ?_
      refine VR.top (v' := .int (bI false)) (by rw [bI_f]) ?_
      exact join47 _ (by first | (simp [recB, q7_130, q16_142]; done) | (simp [recB, q7_130, q16_142]; omega))
    · have q16_142 := (bI_0.mp q)
      clear q
      refine VR.blk h [(.aload_n 0, 1), (.iload_n 1, 1), (.iload_n 3, 1)] (by decide +kernel) (pc' := 22) (ls' := [some (.ref am), some (.int (nI (w))), some (.int (nI (e))), some (.int (nI (op))), none]) (st' := [.int (nI (op)), .int (nI (w)), .ref am]) rfl rfl (Nat.le_of_ble_eq_true rfl) ?_
      refine VR.call h (np := 2) (st := []) (r_holds hls A w op K hw hm hB (by omega) ho) wc_X11_holds wn_RX11 (Or.inl wm_RX11_222) wi_X11_holds we_X11_holds (by decide +kernel) rfl (by decide) (by decide) (by simp [Value.category]) (by decide +kernel) rfl ?_
      refine VR.if_ne h (off := 17) (by decide +kernel) (tgt := 42) (by decide) (fun q => ?_) (fun q => ?_)
      · have q25_152 := (bI_1 (fun z => q (bI_0.mpr z)))
        clear q
        refine VR.blk h [(.iconst 1, 1)] (by decide +kernel) (pc' := 43) (ls' := [some (.ref am), some (.int (nI (w))), some (.int (nI (e))), some (.int (nI (op))), none]) (st' := [.int (nI (1))]) rfl rfl (Nat.le_of_ble_eq_true rfl) ?_
        refine VR.goto h (off := 4) (tgt := 47) (by decide +kernel) (by decide) ?_
        refine VR.top (v' := .int (bI true)) (by rw [bI_t]) ?_
        exact join47 _ (by first | (simp [recB, q7_130, q16_142, q25_152]; done) | (simp [recB, q7_130, q16_142, q25_152]; omega))
      · have q25_152 := (bI_0.mp q)
        clear q
        refine VR.blk h [(.aload_n 0, 1), (.iload_n 1, 1), (.aload_n 0, 1)] (by decide +kernel) (pc' := 31) (ls' := [some (.ref am), some (.int (nI (w))), some (.int (nI (e))), some (.int (nI (op))), none]) (st' := [.ref am, .int (nI (w)), .ref am]) rfl rfl (Nat.le_of_ble_eq_true rfl) ?_
        refine VR.getA h (j := 8) rfl (Or.inl wf_RX11_23) (by decide +kernel) ?_
        refine VR.blk h [(.iload_n 3, 1)] (by decide +kernel) (pc' := 35) (ls' := [some (.ref am), some (.int (nI (w))), some (.int (nI (e))), some (.int (nI (op))), none]) (st' := [.int (nI (op)), .ref (ad 8), .int (nI (w)), .ref am]) rfl rfl (Nat.le_of_ble_eq_true rfl) ?_
        refine VR.iald h (j := 8) (i := op) rfl rfl (by show _ < 600; omega) (by decide +kernel) (v := (nI (tn A 8 op))) (mval_1 rfl) ?_
        have nb165 := hB.2 8 op
        refine VR.call h (np := 2) (st := []) (r_hasRoom hls A w (tn A 8 op) K hw hm hrec hs hs2 hB (by omega) (by omega)) wc_X11_hasRoom wn_RX11 (Or.inl wm_RX11_225) wi_X11_hasRoom we_X11_hasRoom (by decide +kernel) rfl (by decide) (by decide) (by simp [Value.category]) (by decide +kernel) rfl ?_
        refine VR.if_eq h (off := 7) (by decide +kernel) (tgt := 46) (by decide) (fun q => ?_) (fun q => ?_)
        · have q39_167 := (bI_0.mp q)
          clear q
          refine VR.blk h [(.iconst 0, 1)] (by decide +kernel) (pc' := 47) (ls' := [some (.ref am), some (.int (nI (w))), some (.int (nI (e))), some (.int (nI (op))), none]) (st' := [.int (nI (0))]) rfl rfl (Nat.le_of_ble_eq_true rfl) ?_
          refine VR.top (v' := .int (bI false)) (by rw [bI_f]) ?_
          exact join47 _ (by first | (simp [recB, q7_130, q16_142, q25_152, q39_167]; done) | (simp [recB, q7_130, q16_142, q25_152, q39_167]; omega))
        · have q39_167 := (bI_1 (fun z => q (bI_0.mpr z)))
          clear q
          refine VR.blk h [(.iconst 1, 1)] (by decide +kernel) (pc' := 43) (ls' := [some (.ref am), some (.int (nI (w))), some (.int (nI (e))), some (.int (nI (op))), none]) (st' := [.int (nI (1))]) rfl rfl (Nat.le_of_ble_eq_true rfl) ?_
          refine VR.goto h (off := 4) (tgt := 47) (by decide +kernel) (by decide) ?_
          refine VR.top (v' := .int (bI true)) (by rw [bI_t]) ?_
          exact join47 _ (by first | (simp [recB, q7_130, q16_142, q25_152, q39_167]; done) | (simp [recB, q7_130, q16_142, q25_152, q39_167]; omega))
