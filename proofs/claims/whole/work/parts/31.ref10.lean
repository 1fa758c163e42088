theorem i32_lt {x y : Int32} (h : ¬ y ≤ x) : x < y := by
  rw [Int32.le_iff_toInt_le] at h
  rw [Int32.lt_iff_toInt_lt]
  omega
set_option maxRecDepth 100000 in
set_option maxHeartbeats 4000000 in
theorem r_replays {l : Launch} {D : va_G} {tc : Nat → ClassId} {am : Nat} {ad : Nat → Nat} (hls : l.stackTraces = false) (A : TS) (e w K : Nat) (he : e < 12) (hw : w < 3) (hm : tn A 44 w ≤ 16) (hL : LogOK A e) (hB : NB K A) (hK9 : 7300 ≤ K) (hK : K < 1999990000) : RM l D tc am ad yX11_replays cX11_replays 5 (none) 2 [.ref am, .int (nI (e)), .int (nI (w))] A (none) (rpF A e w) := by
  refine RM.of hls (by decide +kernel) (by simp [Value.category]) (Nat.le_of_ble_eq_true rfl) (fun A0 p e9 s m args below meth c S0 sz Q h hr hA hQ => ?_)
  have nb13 := hB.1 13
  have hA600 := hL.1
  refine VR.eqL (ls' := [some (.ref am), some (.int (nI (e))), some (.int (nI (w))), none, none]) rfl ?_
  refine VR.blk h [(.iconst 0, 1), (.istore_n 3, 1)] (by decide +kernel) (pc' := 2) (ls' := [some (.ref am), some (.int (nI (e))), some (.int (nI (w))), some (.int (nI (0))), none]) (st' := []) rfl rfl (Nat.le_of_ble_eq_true rfl) ?_
  have loop2 : ∀ (t c9 : Nat), 4 - c9 = t → c9 ≤ 4 → VR l D tc A0 p e9 (rmd 2 0 0) s m args below meth c 5 Q am ad (rpO A e w c9) 2 [some (.ref am), some (.int (nI (e))), some (.int (nI (w))), some (.int (nI (c9))), none] [] := by
    intro t; induction t using Nat.strongRecOn with
    | _ t ih2 =>
      intro c9 ht2 hk2
      obtain ⟨O1, O2, O3⟩ := rpO_inv (w := w) hL hB (by omega) c9
      generalize hO : rpO A e w c9 = O at O1 O2 O3 ⊢
      refine VR.blk h [(.iload_n 3, 1), (.iconst 4, 1)] (by decide +kernel) (pc' := 4) (ls' := [some (.ref am), some (.int (nI (e))), some (.int (nI (w))), some (.int (nI (c9))), none]) (st' := [.int (nI (4)), .int (nI (c9))]) rfl rfl (Nat.le_of_ble_eq_true rfl) ?_
      refine VR.icmp_ge h (off := 79) (by decide +kernel) (tgt := 83) (by decide) (fun q => ?_) (fun q => ?_)
      · have q4_11 := ((nI_leI (by omega) (by omega)).mp q)
        clear q
        exact VR.vret h hA hQ hr rfl (by obtain rfl : c9 = 4 := (by omega); exact hO.symm) (by decide +kernel)
      · have q4_11 : ¬ _ := (fun z => q ((nI_leI (by omega) (by omega)).mpr z))
        clear q
        refine VR.blk h [(.iconst 0, 1), (.istore 4, 2)] (by decide +kernel) (pc' := 10) (ls' := [some (.ref am), some (.int (nI (e))), some (.int (nI (w))), some (.int (nI (c9))), some (.int (nI (0)))]) (st' := []) rfl rfl (Nat.le_of_ble_eq_true rfl) ?_
        have loop10 : ∀ (t k : Nat), tf A 13 - k = t → k ≤ tf A 13 → VR l D tc A0 p e9 (rmd 2 0 0) s m args below meth c 5 Q am ad (rpL O e w c9 k) 10 [some (.ref am), some (.int (nI (e))), some (.int (nI (w))), some (.int (nI (c9))), some (.int (nI (k)))] [] := by
          intro t; induction t using Nat.strongRecOn with
          | _ t ih10 =>
            intro k ht10 hk10
            obtain ⟨G1, G2, G3⟩ := rpL_inv (w := w) (c := c9) O1 O2 (by omega) O3 k (by rw [O3.1]; omega)
            generalize hG : rpL O e w c9 k = G at G1 G2 G3 ⊢
            have g44 := G3.2.1 44 w (by decide) (by decide)
            have g13 := G3.1 13
            have gle := G1.le
            have gpl := placeF_le G e k
            have g600 := G1.1
            have hlo : ∀ i, i < tn G 26 e → tn G 22 (600 * e + i) < 600 := fun i hi => Nat.lt_of_lt_of_le (G1.2.1 i hi) g600
            refine VR.blk h [(.iload 4, 2), (.aload_n 0, 1)] (by decide +kernel) (pc' := 13) (ls' := [some (.ref am), some (.int (nI (e))), some (.int (nI (w))), some (.int (nI (c9))), some (.int (nI (k)))]) (st' := [.ref am, .int (nI (k))]) rfl rfl (Nat.le_of_ble_eq_true rfl) ?_
            refine VR.getI h (j := 13) rfl (Or.inl wf_RX11_251) (by decide +kernel) (v := tf A 13) (by first | exact G3.1 13 | exact O3.1 13) ?_
            refine VR.icmp_ge h (off := 61) (by decide +kernel) (tgt := 77) (by decide) (fun q => ?_) (fun q => ?_)
            · have q16_32 := ((nI_leI (by omega) (by omega)).mp q)
              clear q
              refine VR.incN h (x := c9) (i := 3) (by decide +kernel) rfl (Nat.le_of_ble_eq_true rfl) ?_
              refine VR.eqL (ls' := [some (.ref am), some (.int (nI (e))), some (.int (nI (w))), some (.int (nI (c9 + 1))), some (.int (nI (k)))]) rfl ?_
              refine VR.goto h (off := -78) (tgt := 2) (by decide +kernel) (by decide) ?_
              refine VR.eqA (A' := (rpO A e w ((c9 + 1)))) (by rw [rpO, hO]; show rpL O e w c9 (tf O 13) = G; rw [O3.1 13, show tf A 13 = k by omega]; exact hG) ?_
              refine VR.drop 4 (ls' := [some (.ref am), some (.int (nI (e))), some (.int (nI (w))), some (.int (nI (c9 + 1))), none]) rfl ?_
              refine VR.eqL (ls' := [some (.ref am), some (.int (nI (e))), some (.int (nI (w))), some (.int (nI ((c9 + 1)))), none]) rfl ?_
              exact ih2 (4 - (c9 + 1)) (by omega) (c9 + 1) rfl (by omega)
            · have q16_32 : ¬ _ := (fun z => q ((nI_leI (by omega) (by omega)).mpr z))
              clear q
              refine VR.blk h [(.aload_n 0, 1)] (by decide +kernel) (pc' := 20) (ls' := [some (.ref am), some (.int (nI (e))), some (.int (nI (w))), some (.int (nI (c9))), some (.int (nI (k)))]) (st' := [.ref am]) rfl rfl (Nat.le_of_ble_eq_true rfl) ?_
              refine VR.getA h (j := 5) rfl (Or.inl wf_RX11_13) (by decide +kernel) ?_
              refine VR.blk h [(.iload 4, 2)] (by decide +kernel) (pc' := 25) (ls' := [some (.ref am), some (.int (nI (e))), some (.int (nI (w))), some (.int (nI (c9))), some (.int (nI (k)))]) (st' := [.int (nI (k)), .ref (ad 5)]) rfl rfl (Nat.le_of_ble_eq_true rfl) ?_
              refine VR.iald h (j := 5) (i := k) rfl rfl (by show _ < 600; omega) (by decide +kernel) (v := (nI (tn G 5 k))) (mval_1 rfl) ?_
              have nb48 := G2.2 5 k
              refine VR.blk h [(.iload_n 3, 1)] (by decide +kernel) (pc' := 27) (ls' := [some (.ref am), some (.int (nI (e))), some (.int (nI (w))), some (.int (nI (c9))), some (.int (nI (k)))]) (st' := [.int (nI (c9)), .int (nI (tn G 5 k))]) rfl rfl (Nat.le_of_ble_eq_true rfl) ?_
              refine VR.icmp_ne h (off := 44) (by decide +kernel) (tgt := 71) (by decide) (fun q => ?_) (fun q => ?_)
              · have q27_50 : ¬ _ := (fun z => q ((nI_eq (by omega) (by omega)).mpr z))
                clear q
                refine VR.incN h (x := k) (i := 4) (by decide +kernel) rfl (Nat.le_of_ble_eq_true rfl) ?_
                refine VR.eqL (ls' := [some (.ref am), some (.int (nI (e))), some (.int (nI (w))), some (.int (nI (c9))), some (.int (nI (k + 1)))]) rfl ?_
                refine VR.goto h (off := -64) (tgt := 10) (by decide +kernel) (by decide) ?_
                refine VR.eqA (A' := (rpL O e w c9 ((k + 1)))) (by rw [rpL, hG]; unfold rpS; rw [if_neg (fun z => q27_50 z.1)]) ?_
                refine VR.eqL (ls' := [some (.ref am), some (.int (nI (e))), some (.int (nI (w))), some (.int (nI (c9))), some (.int (nI ((k + 1))))]) rfl ?_
                exact ih10 (tf A 13 - (k + 1)) (by omega) (k + 1) rfl (by omega)
              · have q27_50 := ((nI_eq (by omega) (by omega)).mp q)
                clear q
                refine VR.blk h [(.aload_n 0, 1), (.iload_n 2, 1), (.iload 4, 2)] (by decide +kernel) (pc' := 34) (ls' := [some (.ref am), some (.int (nI (e))), some (.int (nI (w))), some (.int (nI (c9))), some (.int (nI (k)))]) (st' := [.int (nI (k)), .int (nI (w)), .ref am]) rfl rfl (Nat.le_of_ble_eq_true rfl) ?_
                refine VR.call h (np := 2) (st := []) (r_holds hls G w k K hw (by omega) G2 (by omega) (by omega)) wc_X11_holds wn_RX11 (Or.inl wm_RX11_222) wi_X11_holds we_X11_holds (by decide +kernel) rfl (by decide) (by decide) (by simp [Value.category]) (by decide +kernel) rfl ?_
                refine VR.if_eq h (off := 34) (by decide +kernel) (tgt := 71) (by decide) (fun q => ?_) (fun q => ?_)
                · have q37_63 := (bI_0.mp q)
                  clear q
                  refine VR.incN h (x := k) (i := 4) (by decide +kernel) rfl (Nat.le_of_ble_eq_true rfl) ?_
                  refine VR.eqL (ls' := [some (.ref am), some (.int (nI (e))), some (.int (nI (w))), some (.int (nI (c9))), some (.int (nI (k + 1)))]) rfl ?_
                  refine VR.goto h (off := -64) (tgt := 10) (by decide +kernel) (by decide) ?_
                  refine VR.eqA (A' := (rpL O e w c9 ((k + 1)))) (by rw [rpL, hG]; unfold rpS; rw [if_neg (fun z => Bool.noConfusion (z.2.1.symm.trans q37_63))]) ?_
                  refine VR.eqL (ls' := [some (.ref am), some (.int (nI (e))), some (.int (nI (w))), some (.int (nI (c9))), some (.int (nI ((k + 1))))]) rfl ?_
                  exact ih10 (tf A 13 - (k + 1)) (by omega) (k + 1) rfl (by omega)
                · have q37_63 := (bI_1 (fun z => q (bI_0.mpr z)))
                  clear q
                  refine VR.blk h [(.aload_n 0, 1), (.iload_n 1, 1), (.iload 4, 2)] (by decide +kernel) (pc' := 44) (ls' := [some (.ref am), some (.int (nI (e))), some (.int (nI (w))), some (.int (nI (c9))), some (.int (nI (k)))]) (st' := [.int (nI (k)), .int (nI (e)), .ref am]) rfl rfl (Nat.le_of_ble_eq_true rfl) ?_
                  refine VR.call h (np := 2) (st := []) (r_place hls G e k K he (by omega) G2 (by omega) (by omega)) wc_X11_place wn_RX11 (Or.inl wm_RX11_183) wi_X11_place we_X11_place (by decide +kernel) rfl (by decide) (by decide) (by simp [Value.category]) (by decide +kernel) rfl ?_
                  refine VR.if_ge h (off := 24) (by decide +kernel) (tgt := 71) (by decide) (fun q => ?_) (fun q => ?_)
                  · have q47_76 := ((oI_nn (by omega)).mp q)
                    clear q
                    refine VR.incN h (x := k) (i := 4) (by decide +kernel) rfl (Nat.le_of_ble_eq_true rfl) ?_
                    refine VR.eqL (ls' := [some (.ref am), some (.int (nI (e))), some (.int (nI (w))), some (.int (nI (c9))), some (.int (nI (k + 1)))]) rfl ?_
                    refine VR.goto h (off := -64) (tgt := 10) (by decide +kernel) (by decide) ?_
                    refine VR.eqA (A' := (rpL O e w c9 ((k + 1)))) (by rw [rpL, hG]; unfold rpS; rw [if_neg (fun z => q47_76 z.2.2.1)]) ?_
                    refine VR.eqL (ls' := [some (.ref am), some (.int (nI (e))), some (.int (nI (w))), some (.int (nI (c9))), some (.int (nI ((k + 1))))]) rfl ?_
                    exact ih10 (tf A 13 - (k + 1)) (by omega) (k + 1) rfl (by omega)
                  · have q47_76 := (Decidable.of_not_not (fun z => q ((oI_nn (by omega)).mpr z)))
                    clear q
                    refine VR.blk h [(.aload_n 0, 1), (.iload_n 1, 1), (.iload 4, 2)] (by decide +kernel) (pc' := 54) (ls' := [some (.ref am), some (.int (nI (e))), some (.int (nI (w))), some (.int (nI (c9))), some (.int (nI (k)))]) (st' := [.int (nI (k)), .int (nI (e)), .ref am]) rfl rfl (Nat.le_of_ble_eq_true rfl) ?_
                    refine VR.call h (np := 2) (st := []) (r_hasGreater hls G e k K he (by omega) hlo G2 (by omega) (by omega)) wc_X11_hasGreater wn_RX11 (Or.inl wm_RX11_193) wi_X11_hasGreater we_X11_hasGreater (by decide +kernel) rfl (by decide) (by decide) (by simp [Value.category]) (by decide +kernel) rfl ?_
                    refine VR.if_eq h (off := 6) (by decide +kernel) (tgt := 63) (by decide) (fun q => ?_) (fun q => ?_)
                    · have q57_89 := (bI_0.mp q)
                      clear q
                      refine VR.blk h [(.aload_n 0, 1), (.iload_n 1, 1), (.iload 4, 2), (.iconst 0, 1)] (by decide +kernel) (pc' := 68) (ls' := [some (.ref am), some (.int (nI (e))), some (.int (nI (w))), some (.int (nI (c9))), some (.int (nI (k)))]) (st' := [.int (nI (0)), .int (nI (k)), .int (nI (e)), .ref am]) rfl rfl (Nat.le_of_ble_eq_true rfl) ?_
                      refine VR.call h (np := 3) (st := []) (r_appends hls G e k false K he (by have z := G1.room (e := e) (op := k) (by omega) q47_76; omega) (by omega) hlo G2 (by omega)) wc_X11_appends wn_RX11 (Or.inl wm_RX11_208) wi_X11_appends we_X11_appends (by decide +kernel) rfl (by decide) (by decide) (by simp [Value.category]) (by decide +kernel) (by simp [oI_s, bI_f, bI_t]) ?_
                      refine VR.incN h (x := k) (i := 4) (by decide +kernel) rfl (Nat.le_of_ble_eq_true rfl) ?_
                      refine VR.eqL (ls' := [some (.ref am), some (.int (nI (e))), some (.int (nI (w))), some (.int (nI (c9))), some (.int (nI (k + 1)))]) rfl ?_
                      refine VR.goto h (off := -64) (tgt := 10) (by decide +kernel) (by decide) ?_
                      refine VR.eqA (A' := (rpL O e w c9 ((k + 1)))) (by rw [rpL, hG]; unfold rpS; rw [if_pos ⟨q27_50, q37_63, q47_76, q57_89⟩]) ?_
                      refine VR.eqL (ls' := [some (.ref am), some (.int (nI (e))), some (.int (nI (w))), some (.int (nI (c9))), some (.int (nI ((k + 1))))]) rfl ?_
                      exact ih10 (tf A 13 - (k + 1)) (by omega) (k + 1) rfl (by omega)
                    · have q57_89 := (bI_1 (fun z => q (bI_0.mpr z)))
                      clear q
                      refine VR.goto h (off := 11) (tgt := 71) (by decide +kernel) (by decide) ?_
                      refine VR.incN h (x := k) (i := 4) (by decide +kernel) rfl (Nat.le_of_ble_eq_true rfl) ?_
                      refine VR.eqL (ls' := [some (.ref am), some (.int (nI (e))), some (.int (nI (w))), some (.int (nI (c9))), some (.int (nI (k + 1)))]) rfl ?_
                      refine VR.goto h (off := -64) (tgt := 10) (by decide +kernel) (by decide) ?_
                      refine VR.eqA (A' := (rpL O e w c9 ((k + 1)))) (by rw [rpL, hG]; unfold rpS; rw [if_neg (fun z => Bool.noConfusion (z.2.2.2.symm.trans q57_89))]) ?_
                      refine VR.eqL (ls' := [some (.ref am), some (.int (nI (e))), some (.int (nI (w))), some (.int (nI (c9))), some (.int (nI ((k + 1))))]) rfl ?_
                      exact ih10 (tf A 13 - (k + 1)) (by omega) (k + 1) rfl (by omega)
        refine VR.eqA (A' := (rpL O e w c9 0)) rfl ?_
        refine VR.eqL (ls' := [some (.ref am), some (.int (nI (e))), some (.int (nI (w))), some (.int (nI (c9))), some (.int (nI (0)))]) rfl ?_
        exact loop10 _ 0 rfl (Nat.zero_le _)
  refine VR.eqA (A' := (rpO A e w 0)) rfl ?_
  refine VR.eqL (ls' := [some (.ref am), some (.int (nI (e))), some (.int (nI (w))), some (.int (nI (0))), none]) rfl ?_
  exact loop2 _ 0 rfl (Nat.zero_le _)

set_option maxRecDepth 100000 in
set_option maxHeartbeats 4000000 in
theorem r_decide_b {l : Launch} {D : va_G} {tc : Nat → ClassId} {am : Nat} {ad : Nat → Nat} (hls : l.stackTraces = false) (A : TS) (A1 : TS) (x y : Int32) (hA1 : A1 = sf A 0 0) (hx : (noIx x (tf A1 1) || noIx y (tf A1 1)) = true) : RM l D tc am ad yX11_decide cX11_decide 5 (some .int) 4 [.ref am, .int (x), .int (y)] A (some (.int (nI 0))) (sf A1 0 1) := by
  refine RM.of hls (by decide +kernel) (by simp [Value.category]) (Nat.le_of_ble_eq_true rfl) (fun A0 p e9 s m args below meth c S0 sz Q h hr hA hQ => ?_)
  refine VR.eqL (ls' := [some (.ref am), some (.int (x)), some (.int (y)), none, none]) rfl ?_
  refine VR.blk h [(.aload_n 0, 1), (.iconst 0, 1)] (by decide +kernel) (pc' := 2) (ls' := [some (.ref am), some (.int (x)), some (.int (y)), none, none]) (st' := [.int (nI (0)), .ref am]) rfl rfl (Nat.le_of_ble_eq_true rfl) ?_
  refine VR.putI h (j := 0) rfl rfl rfl (Or.inl wf_RX11_1) (by decide +kernel) ?_
  refine VR.eqA (A' := A1) hA1 ?_
  refine VR.blk h [(.aload_n 0, 1), (.iload_n 1, 1)] (by decide +kernel) (pc' := 7) (ls' := [some (.ref am), some (.int (x)), some (.int (y)), none, none]) (st' := [.int (x), .ref am]) rfl rfl (Nat.le_of_ble_eq_true rfl) ?_
  refine VR.if_lt h (off := 23) (by decide +kernel) (tgt := 30) (by decide) (fun q => ?_) (fun q => ?_)
  · have q7_5 := q
    clear q
    refine VR.blk h [(.iconst 1, 1)] (by decide +kernel) (pc' := 31) (ls' := [some (.ref am), some (.int (x)), some (.int (y)), none, none]) (st' := [.int (nI (1)), .ref am]) rfl rfl (Nat.le_of_ble_eq_true rfl) ?_
    refine VR.goto h (off := 4) (tgt := 35) (by decide +kernel) (by decide) ?_
    refine VR.blk h [(.iconst 1, 1)] (by decide +kernel) (pc' := 36) (ls' := [some (.ref am), some (.int (x)), some (.int (y)), none, none]) (st' := [.int (nI (1)), .int (nI (1)), .ref am]) rfl rfl (Nat.le_of_ble_eq_true rfl) ?_
    refine VR.call h (np := 2) (st := []) (r_throwsT hls A1 1) wc_X11_throwsIf wn_RX11 (Or.inl wm_RX11_247) wi_X11_throwsIf we_X11_throwsIf (by decide +kernel) rfl (by decide) (by decide) (by simp [Value.category]) (by decide +kernel) (by simp [oI_s, bI_f, bI_t]) ?_
    refine VR.if_ne h (off := 25) (by decide +kernel) (tgt := 64) (by decide) (fun _ => ?_) (fun q => absurd q (by decide))
    refine VR.blk h [(.iconst 0, 1)] (by decide +kernel) (pc' := 65) (ls' := [some (.ref am), some (.int (x)), some (.int (y)), none, none]) (st' := [.int (nI (0))]) rfl rfl (Nat.le_of_ble_eq_true rfl) ?_
    exact VR.iret h hA hQ hr rfl rfl rfl (by decide +kernel)
  · have q7_5 := q
    clear q
    refine VR.blk h [(.iload_n 1, 1), (.aload_n 0, 1)] (by decide +kernel) (pc' := 12) (ls' := [some (.ref am), some (.int (x)), some (.int (y)), none, none]) (st' := [.ref am, .int (x), .ref am]) rfl rfl (Nat.le_of_ble_eq_true rfl) ?_
    refine VR.getI h (j := 1) rfl (Or.inl wf_RX11_151) (by decide +kernel) (v := tf A1 1) rfl ?_
    refine VR.icmp_ge h (off := 15) (by decide +kernel) (tgt := 30) (by decide) (fun q => ?_) (fun q => ?_)
    · have q15_19 := q
      clear q
      refine VR.blk h [(.iconst 1, 1)] (by decide +kernel) (pc' := 31) (ls' := [some (.ref am), some (.int (x)), some (.int (y)), none, none]) (st' := [.int (nI (1)), .ref am]) rfl rfl (Nat.le_of_ble_eq_true rfl) ?_
      refine VR.goto h (off := 4) (tgt := 35) (by decide +kernel) (by decide) ?_
      refine VR.blk h [(.iconst 1, 1)] (by decide +kernel) (pc' := 36) (ls' := [some (.ref am), some (.int (x)), some (.int (y)), none, none]) (st' := [.int (nI (1)), .int (nI (1)), .ref am]) rfl rfl (Nat.le_of_ble_eq_true rfl) ?_
      refine VR.call h (np := 2) (st := []) (r_throwsT hls A1 1) wc_X11_throwsIf wn_RX11 (Or.inl wm_RX11_247) wi_X11_throwsIf we_X11_throwsIf (by decide +kernel) rfl (by decide) (by decide) (by simp [Value.category]) (by decide +kernel) (by simp [oI_s, bI_f, bI_t]) ?_
      refine VR.if_ne h (off := 25) (by decide +kernel) (tgt := 64) (by decide) (fun _ => ?_) (fun q => absurd q (by decide))
      refine VR.blk h [(.iconst 0, 1)] (by decide +kernel) (pc' := 65) (ls' := [some (.ref am), some (.int (x)), some (.int (y)), none, none]) (st' := [.int (nI (0))]) rfl rfl (Nat.le_of_ble_eq_true rfl) ?_
      exact VR.iret h hA hQ hr rfl rfl rfl (by decide +kernel)
    · have q15_19 := q
      clear q
      refine VR.blk h [(.iload_n 2, 1)] (by decide +kernel) (pc' := 19) (ls' := [some (.ref am), some (.int (x)), some (.int (y)), none, none]) (st' := [.int (y), .ref am]) rfl rfl (Nat.le_of_ble_eq_true rfl) ?_
      refine VR.if_lt h (off := 11) (by decide +kernel) (tgt := 30) (by decide) (fun q => ?_) (fun q => ?_)
      · have q19_32 := q
        clear q
        refine VR.blk h [(.iconst 1, 1)] (by decide +kernel) (pc' := 31) (ls' := [some (.ref am), some (.int (x)), some (.int (y)), none, none]) (st' := [.int (nI (1)), .ref am]) rfl rfl (Nat.le_of_ble_eq_true rfl) ?_
        refine VR.goto h (off := 4) (tgt := 35) (by decide +kernel) (by decide) ?_
        refine VR.blk h [(.iconst 1, 1)] (by decide +kernel) (pc' := 36) (ls' := [some (.ref am), some (.int (x)), some (.int (y)), none, none]) (st' := [.int (nI (1)), .int (nI (1)), .ref am]) rfl rfl (Nat.le_of_ble_eq_true rfl) ?_
        refine VR.call h (np := 2) (st := []) (r_throwsT hls A1 1) wc_X11_throwsIf wn_RX11 (Or.inl wm_RX11_247) wi_X11_throwsIf we_X11_throwsIf (by decide +kernel) rfl (by decide) (by decide) (by simp [Value.category]) (by decide +kernel) (by simp [oI_s, bI_f, bI_t]) ?_
        refine VR.if_ne h (off := 25) (by decide +kernel) (tgt := 64) (by decide) (fun _ => ?_) (fun q => absurd q (by decide))
        refine VR.blk h [(.iconst 0, 1)] (by decide +kernel) (pc' := 65) (ls' := [some (.ref am), some (.int (x)), some (.int (y)), none, none]) (st' := [.int (nI (0))]) rfl rfl (Nat.le_of_ble_eq_true rfl) ?_
        exact VR.iret h hA hQ hr rfl rfl rfl (by decide +kernel)
      · have q19_32 := q
        clear q
        refine VR.blk h [(.iload_n 2, 1), (.aload_n 0, 1)] (by decide +kernel) (pc' := 24) (ls' := [some (.ref am), some (.int (x)), some (.int (y)), none, none]) (st' := [.ref am, .int (y), .ref am]) rfl rfl (Nat.le_of_ble_eq_true rfl) ?_
        refine VR.getI h (j := 1) rfl (Or.inl wf_RX11_151) (by decide +kernel) (v := tf A1 1) rfl ?_
        refine VR.icmp_lt h (off := 7) (by decide +kernel) (tgt := 34) (by decide) (fun q => ?_) (fun q => ?_)
        · have q27_46 := q
          clear q
          exact absurd hx (by rw [noIx_2 q7_5 (i32_lt q15_19), noIx_2 q19_32 q27_46]; decide)
        · have q27_46 := q
          clear q
          refine VR.blk h [(.iconst 1, 1)] (by decide +kernel) (pc' := 31) (ls' := [some (.ref am), some (.int (x)), some (.int (y)), none, none]) (st' := [.int (nI (1)), .ref am]) rfl rfl (Nat.le_of_ble_eq_true rfl) ?_
          refine VR.goto h (off := 4) (tgt := 35) (by decide +kernel) (by decide) ?_
          refine VR.blk h [(.iconst 1, 1)] (by decide +kernel) (pc' := 36) (ls' := [some (.ref am), some (.int (x)), some (.int (y)), none, none]) (st' := [.int (nI (1)), .int (nI (1)), .ref am]) rfl rfl (Nat.le_of_ble_eq_true rfl) ?_
          refine VR.call h (np := 2) (st := []) (r_throwsT hls A1 1) wc_X11_throwsIf wn_RX11 (Or.inl wm_RX11_247) wi_X11_throwsIf we_X11_throwsIf (by decide +kernel) rfl (by decide) (by decide) (by simp [Value.category]) (by decide +kernel) (by simp [oI_s, bI_f, bI_t]) ?_
          refine VR.if_ne h (off := 25) (by decide +kernel) (tgt := 64) (by decide) (fun _ => ?_) (fun q => absurd q (by decide))
          refine VR.blk h [(.iconst 0, 1)] (by decide +kernel) (pc' := 65) (ls' := [some (.ref am), some (.int (x)), some (.int (y)), none, none]) (st' := [.int (nI (0))]) rfl rfl (Nat.le_of_ble_eq_true rfl) ?_
          exact VR.iret h hA hQ hr rfl rfl rfl (by decide +kernel)

set_option maxRecDepth 100000 in
set_option maxHeartbeats 4000000 in
theorem r_decide_f {l : Launch} {D : va_G} {tc : Nat → ClassId} {am : Nat} {ad : Nat → Nat} (hls : l.stackTraces = false) (A : TS) (A1 : TS) (b w e K : Nat) (hA1 : A1 = sf A 0 0) (hb : b < tf A1 1) (hw : w < tf A1 1) (hf : tf A1 1 ≤ 3) (he : tf A1 38 = e) (hB : NB K A1) (hK : K < 1999980000) (he9 : e = 12) : RM l D tc am ad yX11_decide cX11_decide 5 (some .int) 4 [.ref am, .int (nI (b)), .int (nI (w))] A (some (.int (nI 0))) (sf A1 0 2) := by
  refine RM.of hls (by decide +kernel) (by simp [Value.category]) (Nat.le_of_ble_eq_true rfl) (fun A0 p e9 s m args below meth c S0 sz Q h hr hA hQ => ?_)
  refine VR.eqL (ls' := [some (.ref am), some (.int (nI (b))), some (.int (nI (w))), none, none]) rfl ?_
  refine VR.blk h [(.aload_n 0, 1), (.iconst 0, 1)] (by decide +kernel) (pc' := 2) (ls' := [some (.ref am), some (.int (nI (b))), some (.int (nI (w))), none, none]) (st' := [.int (nI (0)), .ref am]) rfl rfl (Nat.le_of_ble_eq_true rfl) ?_
  refine VR.putI h (j := 0) rfl rfl rfl (Or.inl wf_RX11_1) (by decide +kernel) ?_
  refine VR.eqA (A' := A1) hA1 ?_
  refine VR.blk h [(.aload_n 0, 1), (.iload_n 1, 1)] (by decide +kernel) (pc' := 7) (ls' := [some (.ref am), some (.int (nI (b))), some (.int (nI (w))), none, none]) (st' := [.int (nI (b)), .ref am]) rfl rfl (Nat.le_of_ble_eq_true rfl) ?_
  refine VR.if_lt h (off := 23) (by decide +kernel) (tgt := 30) (by decide) (fun q => ?_) (fun q => ?_)
  · have q7_5 := ((nI_z_lt (by omega)).mp q)
    clear q
    exfalso; omega
  · have q7_5 : ¬ _ := (fun z => q ((nI_z_lt (by omega)).mpr z))
    clear q
    refine VR.blk h [(.iload_n 1, 1), (.aload_n 0, 1)] (by decide +kernel) (pc' := 12) (ls' := [some (.ref am), some (.int (nI (b))), some (.int (nI (w))), none, none]) (st' := [.ref am, .int (nI (b)), .ref am]) rfl rfl (Nat.le_of_ble_eq_true rfl) ?_
    refine VR.getI h (j := 1) rfl (Or.inl wf_RX11_151) (by decide +kernel) (v := tf A1 1) rfl ?_
    refine VR.icmp_ge h (off := 15) (by decide +kernel) (tgt := 30) (by decide) (fun q => ?_) (fun q => ?_)
    · have q15_13 := ((nI_leI (by omega) (by omega)).mp q)
      clear q
      exfalso; omega
    · have q15_13 : ¬ _ := (fun z => q ((nI_leI (by omega) (by omega)).mpr z))
      clear q
      refine VR.blk h [(.iload_n 2, 1)] (by decide +kernel) (pc' := 19) (ls' := [some (.ref am), some (.int (nI (b))), some (.int (nI (w))), none, none]) (st' := [.int (nI (w)), .ref am]) rfl rfl (Nat.le_of_ble_eq_true rfl) ?_
      refine VR.if_lt h (off := 11) (by decide +kernel) (tgt := 30) (by decide) (fun q => ?_) (fun q => ?_)
      · have q19_20 := ((nI_z_lt (by omega)).mp q)
        clear q
        exfalso; omega
      · have q19_20 : ¬ _ := (fun z => q ((nI_z_lt (by omega)).mpr z))
        clear q
        refine VR.blk h [(.iload_n 2, 1), (.aload_n 0, 1)] (by decide +kernel) (pc' := 24) (ls' := [some (.ref am), some (.int (nI (b))), some (.int (nI (w))), none, none]) (st' := [.ref am, .int (nI (w)), .ref am]) rfl rfl (Nat.le_of_ble_eq_true rfl) ?_
        refine VR.getI h (j := 1) rfl (Or.inl wf_RX11_151) (by decide +kernel) (v := tf A1 1) rfl ?_
        refine VR.icmp_lt h (off := 7) (by decide +kernel) (tgt := 34) (by decide) (fun q => ?_) (fun q => ?_)
        · have q27_28 := ((nI_ltI (by omega) (by omega)).mp q)
          clear q
          refine VR.blk h [(.iconst 0, 1), (.iconst 1, 1)] (by decide +kernel) (pc' := 36) (ls' := [some (.ref am), some (.int (nI (b))), some (.int (nI (w))), none, none]) (st' := [.int (nI (1)), .int (nI (0)), .ref am]) rfl rfl (Nat.le_of_ble_eq_true rfl) ?_
          refine VR.call h (np := 2) (st := []) (r_throwsN hls A1 1) wc_X11_throwsIf wn_RX11 (Or.inl wm_RX11_247) wi_X11_throwsIf we_X11_throwsIf (by decide +kernel) rfl (by decide) (by decide) (by simp [Value.category]) (by decide +kernel) (by simp [oI_s, bI_f, bI_t]) ?_
          refine VR.if_ne h (off := 25) (by decide +kernel) (tgt := 64) (by decide) (fun q => absurd (by decide) q) (fun _ => ?_)
          refine VR.blk h [(.aload_n 0, 1), (.aload_n 0, 1)] (by decide +kernel) (pc' := 44) (ls' := [some (.ref am), some (.int (nI (b))), some (.int (nI (w))), none, none]) (st' := [.ref am, .ref am]) rfl rfl (Nat.le_of_ble_eq_true rfl) ?_
          refine VR.getI h (j := 38) rfl (Or.inl wf_RX11_167) (by decide +kernel) (v := e) he ?_
          refine VR.blk h [(.bipush 12, 2)] (by decide +kernel) (pc' := 49) (ls' := [some (.ref am), some (.int (nI (b))), some (.int (nI (w))), none, none]) (st' := [.int (nI (12)), .int (nI (e)), .ref am]) rfl rfl (Nat.le_of_ble_eq_true rfl) ?_
          refine VR.icmp_ne h (off := 7) (by decide +kernel) (tgt := 56) (by decide) (fun q => ?_) (fun q => ?_)
          · have q49_37 : ¬ _ := (fun z => q ((nI_eq (by omega) (by omega)).mpr z))
            clear q
            exfalso; omega
          · have q49_37 := ((nI_eq (by omega) (by omega)).mp q)
            clear q
            refine VR.blk h [(.iconst 1, 1)] (by decide +kernel) (pc' := 53) (ls' := [some (.ref am), some (.int (nI (b))), some (.int (nI (w))), none, none]) (st' := [.int (nI (1)), .ref am]) rfl rfl (Nat.le_of_ble_eq_true rfl) ?_
            refine VR.goto h (off := 4) (tgt := 57) (by decide +kernel) (by decide) ?_
            refine VR.blk h [(.iconst 2, 1)] (by decide +kernel) (pc' := 58) (ls' := [some (.ref am), some (.int (nI (b))), some (.int (nI (w))), none, none]) (st' := [.int (nI (2)), .int (nI (1)), .ref am]) rfl rfl (Nat.le_of_ble_eq_true rfl) ?_
            refine VR.call h (np := 2) (st := []) (r_throwsT hls A1 2) wc_X11_throwsIf wn_RX11 (Or.inl wm_RX11_247) wi_X11_throwsIf we_X11_throwsIf (by decide +kernel) rfl (by decide) (by decide) (by simp [Value.category]) (by decide +kernel) (by simp [oI_s, bI_f, bI_t]) ?_
            refine VR.if_eq h (off := 5) (by decide +kernel) (tgt := 66) (by decide) (fun q => absurd q (by decide)) (fun _ => ?_)
            refine VR.blk h [(.iconst 0, 1)] (by decide +kernel) (pc' := 65) (ls' := [some (.ref am), some (.int (nI (b))), some (.int (nI (w))), none, none]) (st' := [.int (nI (0))]) rfl rfl (Nat.le_of_ble_eq_true rfl) ?_
            exact VR.iret h hA hQ hr rfl rfl rfl (by decide +kernel)
        · have q27_28 : ¬ _ := (fun z => q ((nI_ltI (by omega) (by omega)).mpr z))
          clear q
          exfalso; omega

set_option maxRecDepth 100000 in
set_option maxHeartbeats 4000000 in
theorem r_decide {l : Launch} {D : va_G} {tc : Nat → ClassId} {am : Nat} {ad : Nat → Nat} (hls : l.stackTraces = false) (A : TS) (A1 : TS) (b w e K : Nat) (hA1 : A1 = sf A 0 0) (hb : b < tf A1 1) (hw : w < tf A1 1) (hf : tf A1 1 ≤ 3) (he : tf A1 38 = e) (hB : NB K A1) (hK : K < 1999980000) (he9 : e < 12) (hm40 : tn A1 40 b ≤ 600) (hm39 : tn A1 39 b < 12) (hm44 : tn A1 44 w ≤ 16) (hlog : LogOK (decD A1 e b) e) (hK9 : 7300 ≤ K) : RM l D tc am ad yX11_decide cX11_decide 5 (some .int) 4 [.ref am, .int (nI (b)), .int (nI (w))] A (some (.int (nI e))) (decF A1 e b w) := by
  refine RM.of hls (by decide +kernel) (by simp [Value.category]) (Nat.le_of_ble_eq_true rfl) (fun A0 p e9 s m args below meth c S0 sz Q h hr hA hQ => ?_)
  have hBr : NB K (riF A1 e) := ri_NB hB (by omega)
  have hBD : NB K (decD A1 e b) := (dcL_NB hBr _).sn (hB.2 40 b)
  have h44 : tn (decD A1 e b) 44 w = tn A1 44 w := (((dcL_keep (riF A1 e) e (tn A1 39 b) (tn A1 40 b)).2.1 44 w (by decide)).trans ((ri_keep A1 e).2 44 w (by decide)))
  refine VR.eqL (ls' := [some (.ref am), some (.int (nI (b))), some (.int (nI (w))), none, none]) rfl ?_
  refine VR.blk h [(.aload_n 0, 1), (.iconst 0, 1)] (by decide +kernel) (pc' := 2) (ls' := [some (.ref am), some (.int (nI (b))), some (.int (nI (w))), none, none]) (st' := [.int (nI (0)), .ref am]) rfl rfl (Nat.le_of_ble_eq_true rfl) ?_
  refine VR.putI h (j := 0) rfl rfl rfl (Or.inl wf_RX11_1) (by decide +kernel) ?_
  refine VR.eqA (A' := A1) hA1 ?_
  refine VR.blk h [(.aload_n 0, 1), (.iload_n 1, 1)] (by decide +kernel) (pc' := 7) (ls' := [some (.ref am), some (.int (nI (b))), some (.int (nI (w))), none, none]) (st' := [.int (nI (b)), .ref am]) rfl rfl (Nat.le_of_ble_eq_true rfl) ?_
  refine VR.if_lt h (off := 23) (by decide +kernel) (tgt := 30) (by decide) (fun q => ?_) (fun q => ?_)
  · have q7_8 := ((nI_z_lt (by omega)).mp q)
    clear q
    exfalso; omega
  · have q7_8 : ¬ _ := (fun z => q ((nI_z_lt (by omega)).mpr z))
    clear q
    refine VR.blk h [(.iload_n 1, 1), (.aload_n 0, 1)] (by decide +kernel) (pc' := 12) (ls' := [some (.ref am), some (.int (nI (b))), some (.int (nI (w))), none, none]) (st' := [.ref am, .int (nI (b)), .ref am]) rfl rfl (Nat.le_of_ble_eq_true rfl) ?_
    refine VR.getI h (j := 1) rfl (Or.inl wf_RX11_151) (by decide +kernel) (v := tf A1 1) rfl ?_
    refine VR.icmp_ge h (off := 15) (by decide +kernel) (tgt := 30) (by decide) (fun q => ?_) (fun q => ?_)
    · have q15_16 := ((nI_leI (by omega) (by omega)).mp q)
      clear q
      exfalso; omega
    · have q15_16 : ¬ _ := (fun z => q ((nI_leI (by omega) (by omega)).mpr z))
      clear q
      refine VR.blk h [(.iload_n 2, 1)] (by decide +kernel) (pc' := 19) (ls' := [some (.ref am), some (.int (nI (b))), some (.int (nI (w))), none, none]) (st' := [.int (nI (w)), .ref am]) rfl rfl (Nat.le_of_ble_eq_true rfl) ?_
      refine VR.if_lt h (off := 11) (by decide +kernel) (tgt := 30) (by decide) (fun q => ?_) (fun q => ?_)
      · have q19_23 := ((nI_z_lt (by omega)).mp q)
        clear q
        exfalso; omega
      · have q19_23 : ¬ _ := (fun z => q ((nI_z_lt (by omega)).mpr z))
        clear q
        refine VR.blk h [(.iload_n 2, 1), (.aload_n 0, 1)] (by decide +kernel) (pc' := 24) (ls' := [some (.ref am), some (.int (nI (b))), some (.int (nI (w))), none, none]) (st' := [.ref am, .int (nI (w)), .ref am]) rfl rfl (Nat.le_of_ble_eq_true rfl) ?_
        refine VR.getI h (j := 1) rfl (Or.inl wf_RX11_151) (by decide +kernel) (v := tf A1 1) rfl ?_
        refine VR.icmp_lt h (off := 7) (by decide +kernel) (tgt := 34) (by decide) (fun q => ?_) (fun q => ?_)
        · have q27_31 := ((nI_ltI (by omega) (by omega)).mp q)
          clear q
          refine VR.blk h [(.iconst 0, 1), (.iconst 1, 1)] (by decide +kernel) (pc' := 36) (ls' := [some (.ref am), some (.int (nI (b))), some (.int (nI (w))), none, none]) (st' := [.int (nI (1)), .int (nI (0)), .ref am]) rfl rfl (Nat.le_of_ble_eq_true rfl) ?_
          refine VR.call h (np := 2) (st := []) (r_throwsN hls A1 1) wc_X11_throwsIf wn_RX11 (Or.inl wm_RX11_247) wi_X11_throwsIf we_X11_throwsIf (by decide +kernel) rfl (by decide) (by decide) (by simp [Value.category]) (by decide +kernel) (by simp [oI_s, bI_f, bI_t]) ?_
          refine VR.if_ne h (off := 25) (by decide +kernel) (tgt := 64) (by decide) (fun q => absurd (by decide) q) (fun _ => ?_)
          refine VR.blk h [(.aload_n 0, 1), (.aload_n 0, 1)] (by decide +kernel) (pc' := 44) (ls' := [some (.ref am), some (.int (nI (b))), some (.int (nI (w))), none, none]) (st' := [.ref am, .ref am]) rfl rfl (Nat.le_of_ble_eq_true rfl) ?_
          refine VR.getI h (j := 38) rfl (Or.inl wf_RX11_167) (by decide +kernel) (v := e) he ?_
          refine VR.blk h [(.bipush 12, 2)] (by decide +kernel) (pc' := 49) (ls' := [some (.ref am), some (.int (nI (b))), some (.int (nI (w))), none, none]) (st' := [.int (nI (12)), .int (nI (e)), .ref am]) rfl rfl (Nat.le_of_ble_eq_true rfl) ?_
          refine VR.icmp_ne h (off := 7) (by decide +kernel) (tgt := 56) (by decide) (fun q => ?_) (fun q => ?_)
          · have q49_40 : ¬ _ := (fun z => q ((nI_eq (by omega) (by omega)).mpr z))
            clear q
            refine VR.blk h [(.iconst 0, 1), (.iconst 2, 1)] (by decide +kernel) (pc' := 58) (ls' := [some (.ref am), some (.int (nI (b))), some (.int (nI (w))), none, none]) (st' := [.int (nI (2)), .int (nI (0)), .ref am]) rfl rfl (Nat.le_of_ble_eq_true rfl) ?_
            refine VR.call h (np := 2) (st := []) (r_throwsN hls A1 2) wc_X11_throwsIf wn_RX11 (Or.inl wm_RX11_247) wi_X11_throwsIf we_X11_throwsIf (by decide +kernel) rfl (by decide) (by decide) (by simp [Value.category]) (by decide +kernel) (by simp [oI_s, bI_f, bI_t]) ?_
            refine VR.if_eq h (off := 5) (by decide +kernel) (tgt := 66) (by decide) (fun _ => ?_) (fun q => absurd (by decide) q)
            refine VR.blk h [(.aload_n 0, 1)] (by decide +kernel) (pc' := 67) (ls' := [some (.ref am), some (.int (nI (b))), some (.int (nI (w))), none, none]) (st' := [.ref am]) rfl rfl (Nat.le_of_ble_eq_true rfl) ?_
            refine VR.getI h (j := 38) rfl (Or.inl wf_RX11_167) (by decide +kernel) (v := e) he ?_
            refine VR.blk h [(.istore_n 3, 1), (.aload_n 0, 1), (.iload_n 3, 1)] (by decide +kernel) (pc' := 73) (ls' := [some (.ref am), some (.int (nI (b))), some (.int (nI (w))), some (.int (nI (e))), none]) (st' := [.int (nI (e)), .ref am]) rfl rfl (Nat.le_of_ble_eq_true rfl) ?_
            refine VR.call h (np := 1) (st := []) (r_rises hls A1 e K (by omega) hB (by omega)) wc_X11_rises wn_RX11 (Or.inl wm_RX11_163) wi_X11_rises we_X11_rises (by decide +kernel) rfl (by decide) (by decide) (by simp [Value.category]) (by decide +kernel) rfl ?_
            refine VR.blk h [(.iconst 0, 1), (.istore 4, 2)] (by decide +kernel) (pc' := 79) (ls' := [some (.ref am), some (.int (nI (b))), some (.int (nI (w))), some (.int (nI (e))), some (.int (nI (0)))]) (st' := []) rfl rfl (Nat.le_of_ble_eq_true rfl) ?_
            have loop79 : ∀ (t k : Nat), tn A1 40 b - k = t → k ≤ tn A1 40 b → VR l D tc A0 p e9 (rmd 4 0 0) s m args below meth c 5 Q am ad (dcL (riF A1 e) e (tn A1 39 b) k) 79 [some (.ref am), some (.int (nI (b))), some (.int (nI (w))), some (.int (nI (e))), some (.int (nI (k)))] [] := by
              intro t; induction t using Nat.strongRecOn with
              | _ t ih79 =>
                intro k ht79 hk79
                have D1 := dcL_keep (riF A1 e) e (tn A1 39 b) k
                have D2 : NB K (dcL (riF A1 e) e (tn A1 39 b) k) := dcL_NB hBr k
                have d39 := (D1.2.1 39 b (by decide)).trans ((ri_keep A1 e).2 39 b (by decide))
                have d40 := (D1.2.1 40 b (by decide)).trans ((ri_keep A1 e).2 40 b (by decide))
                generalize hG : dcL (riF A1 e) e (tn A1 39 b) k = G at D1 D2 d39 d40 ⊢
                refine VR.blk h [(.iload 4, 2), (.aload_n 0, 1)] (by decide +kernel) (pc' := 82) (ls' := [some (.ref am), some (.int (nI (b))), some (.int (nI (w))), some (.int (nI (e))), some (.int (nI (k)))]) (st' := [.ref am, .int (nI (k))]) rfl rfl (Nat.le_of_ble_eq_true rfl) ?_
                refine VR.getA h (j := 40) rfl (Or.inl wf_RX11_108) (by decide +kernel) ?_
                refine VR.blk h [(.iload_n 1, 1)] (by decide +kernel) (pc' := 86) (ls' := [some (.ref am), some (.int (nI (b))), some (.int (nI (w))), some (.int (nI (e))), some (.int (nI (k)))]) (st' := [.int (nI (b)), .ref (ad 40), .int (nI (k))]) rfl rfl (Nat.le_of_ble_eq_true rfl) ?_
                refine VR.iald h (j := 40) (i := b) rfl rfl (by show _ < 3; omega) (by decide +kernel) (v := (nI (tn A1 40 b))) ((mval_1 rfl).trans (congrArg nI d40)) ?_
                have nb64 := hB.2 40 b
                refine VR.icmp_ge h (off := 71) (by decide +kernel) (tgt := 158) (by decide) (fun q => ?_) (fun q => ?_)
                · have q87_65 := ((nI_leI (by omega) (by omega)).mp q)
                  clear q
                  refine VR.blk h [(.aload_n 0, 1)] (by decide +kernel) (pc' := 159) (ls' := [some (.ref am), some (.int (nI (b))), some (.int (nI (w))), some (.int (nI (e))), some (.int (nI (k)))]) (st' := [.ref am]) rfl rfl (Nat.le_of_ble_eq_true rfl) ?_
                  refine VR.getA h (j := 26) rfl (Or.inl wf_RX11_69) (by decide +kernel) ?_
                  refine VR.blk h [(.iload_n 3, 1), (.aload_n 0, 1)] (by decide +kernel) (pc' := 164) (ls' := [some (.ref am), some (.int (nI (b))), some (.int (nI (w))), some (.int (nI (e))), some (.int (nI (k)))]) (st' := [.ref am, .int (nI (e)), .ref (ad 26)]) rfl rfl (Nat.le_of_ble_eq_true rfl) ?_
                  refine VR.getA h (j := 40) rfl (Or.inl wf_RX11_108) (by decide +kernel) ?_
                  refine VR.blk h [(.iload_n 1, 1)] (by decide +kernel) (pc' := 168) (ls' := [some (.ref am), some (.int (nI (b))), some (.int (nI (w))), some (.int (nI (e))), some (.int (nI (k)))]) (st' := [.int (nI (b)), .ref (ad 40), .int (nI (e)), .ref (ad 26)]) rfl rfl (Nat.le_of_ble_eq_true rfl) ?_
                  refine VR.iald h (j := 40) (i := b) rfl rfl (by show _ < 3; omega) (by decide +kernel) (v := (nI (tn A1 40 b))) ((mval_1 rfl).trans (congrArg nI d40)) ?_
                  have nb74 := hB.2 40 b
                  refine VR.iastN h (j := 26) (i := e) rfl rfl (by show _ < 12; omega) (by decide +kernel) ?_
                  refine VR.eqA (A' := decD A1 e b) (by unfold decD; rw [show tn A1 40 b = k by omega, hG]) ?_
                  refine VR.blk h [(.aload_n 0, 1), (.iload_n 3, 1), (.iload_n 2, 1)] (by decide +kernel) (pc' := 173) (ls' := [some (.ref am), some (.int (nI (b))), some (.int (nI (w))), some (.int (nI (e))), some (.int (nI (k)))]) (st' := [.int (nI (w)), .int (nI (e)), .ref am]) rfl rfl (Nat.le_of_ble_eq_true rfl) ?_
                  refine VR.call h (np := 2) (st := []) (r_replays hls (decD A1 e b) e w K (by omega) (by omega) (by rw [h44]; exact hm44) hlog hBD hK9 (by omega)) wc_X11_replays wn_RX11 (Or.inl wm_RX11_292) wi_X11_replays we_X11_replays (by decide +kernel) rfl (by decide) (by decide) (by simp [Value.category]) (by decide +kernel) rfl ?_
                  refine VR.blk h [(.aload_n 0, 1)] (by decide +kernel) (pc' := 177) (ls' := [some (.ref am), some (.int (nI (b))), some (.int (nI (w))), some (.int (nI (e))), some (.int (nI (k)))]) (st' := [.ref am]) rfl rfl (Nat.le_of_ble_eq_true rfl) ?_
                  refine VR.getA h (j := 27) rfl (Or.inl wf_RX11_72) (by decide +kernel) ?_
                  refine VR.blk h [(.iload_n 3, 1), (.aload_n 0, 1)] (by decide +kernel) (pc' := 182) (ls' := [some (.ref am), some (.int (nI (b))), some (.int (nI (w))), some (.int (nI (e))), some (.int (nI (k)))]) (st' := [.ref am, .int (nI (e)), .ref (ad 27)]) rfl rfl (Nat.le_of_ble_eq_true rfl) ?_
                  refine VR.getA h (j := 26) rfl (Or.inl wf_RX11_69) (by decide +kernel) ?_
                  refine VR.blk h [(.iload_n 3, 1)] (by decide +kernel) (pc' := 186) (ls' := [some (.ref am), some (.int (nI (b))), some (.int (nI (w))), some (.int (nI (e))), some (.int (nI (k)))]) (st' := [.int (nI (e)), .ref (ad 26), .int (nI (e)), .ref (ad 27)]) rfl rfl (Nat.le_of_ble_eq_true rfl) ?_
                  refine VR.iald h (j := 26) (i := e) rfl rfl (by show _ < 12; omega) (by decide +kernel) (v := (nI (tn (decR A1 e b w) 26 e))) (mval_1 rfl) ?_
                  refine VR.iastN h (j := 27) (i := e) rfl rfl (by show _ < 12; omega) (by decide +kernel) ?_
                  refine VR.blk h [(.aload_n 0, 1)] (by decide +kernel) (pc' := 189) (ls' := [some (.ref am), some (.int (nI (b))), some (.int (nI (w))), some (.int (nI (e))), some (.int (nI (k)))]) (st' := [.ref am]) rfl rfl (Nat.le_of_ble_eq_true rfl) ?_
                  refine VR.getA h (j := 39) rfl (Or.inl wf_RX11_105) (by decide +kernel) ?_
                  refine VR.blk h [(.iload_n 1, 1), (.iload_n 3, 1)] (by decide +kernel) (pc' := 194) (ls' := [some (.ref am), some (.int (nI (b))), some (.int (nI (w))), some (.int (nI (e))), some (.int (nI (k)))]) (st' := [.int (nI (e)), .int (nI (b)), .ref (ad 39)]) rfl rfl (Nat.le_of_ble_eq_true rfl) ?_
                  refine VR.iastN h (j := 39) (i := b) rfl rfl (by show _ < 3; omega) (by decide +kernel) ?_
                  refine VR.blk h [(.aload_n 0, 1)] (by decide +kernel) (pc' := 196) (ls' := [some (.ref am), some (.int (nI (b))), some (.int (nI (w))), some (.int (nI (e))), some (.int (nI (k)))]) (st' := [.ref am]) rfl rfl (Nat.le_of_ble_eq_true rfl) ?_
                  refine VR.getA h (j := 41) rfl (Or.inl wf_RX11_111) (by decide +kernel) ?_
                  refine VR.blk h [(.iload_n 2, 1), (.iload_n 3, 1)] (by decide +kernel) (pc' := 201) (ls' := [some (.ref am), some (.int (nI (b))), some (.int (nI (w))), some (.int (nI (e))), some (.int (nI (k)))]) (st' := [.int (nI (e)), .int (nI (w)), .ref (ad 41)]) rfl rfl (Nat.le_of_ble_eq_true rfl) ?_
                  refine VR.iastN h (j := 41) (i := w) rfl rfl (by show _ < 3; omega) (by decide +kernel) ?_
                  refine VR.blk h [(.aload_n 0, 1)] (by decide +kernel) (pc' := 203) (ls' := [some (.ref am), some (.int (nI (b))), some (.int (nI (w))), some (.int (nI (e))), some (.int (nI (k)))]) (st' := [.ref am]) rfl rfl (Nat.le_of_ble_eq_true rfl) ?_
                  refine VR.getA h (j := 42) rfl (Or.inl wf_RX11_114) (by decide +kernel) ?_
                  refine VR.blk h [(.iload_n 2, 1), (.iconst 1, 1)] (by decide +kernel) (pc' := 208) (ls' := [some (.ref am), some (.int (nI (b))), some (.int (nI (w))), some (.int (nI (e))), some (.int (nI (k)))]) (st' := [.int (nI (1)), .int (nI (w)), .ref (ad 42)]) rfl rfl (Nat.le_of_ble_eq_true rfl) ?_
                  refine VR.bast h (j := 42) (i := w) (v := true) rfl rfl (by show _ < 3; omega) (by decide +kernel) ?_
                  refine VR.blk h [(.iload_n 3, 1)] (by decide +kernel) (pc' := 210) (ls' := [some (.ref am), some (.int (nI (b))), some (.int (nI (w))), some (.int (nI (e))), some (.int (nI (k)))]) (st' := [.int (nI (e))]) rfl rfl (Nat.le_of_ble_eq_true rfl) ?_
                  exact VR.iret h hA hQ hr rfl rfl rfl (by decide +kernel)
                · have q87_65 : ¬ _ := (fun z => q ((nI_leI (by omega) (by omega)).mpr z))
                  clear q
                  refine VR.blk h [(.aload_n 0, 1)] (by decide +kernel) (pc' := 91) (ls' := [some (.ref am), some (.int (nI (b))), some (.int (nI (w))), some (.int (nI (e))), some (.int (nI (k)))]) (st' := [.ref am]) rfl rfl (Nat.le_of_ble_eq_true rfl) ?_
                  refine VR.getA h (j := 22) rfl (Or.inl wf_RX11_57) (by decide +kernel) ?_
                  refine VR.blk h [(.sipush 600, 3), (.iload_n 3, 1)] (by decide +kernel) (pc' := 98) (ls' := [some (.ref am), some (.int (nI (b))), some (.int (nI (w))), some (.int (nI (e))), some (.int (nI (k)))]) (st' := [.int (nI (e)), .int (nI (600)), .ref (ad 22)]) rfl rfl (Nat.le_of_ble_eq_true rfl) ?_
                  refine VR.mulN h (by decide +kernel) (Nat.le_of_ble_eq_true rfl) ?_
                  refine VR.blk h [(.iload 4, 2)] (by decide +kernel) (pc' := 101) (ls' := [some (.ref am), some (.int (nI (b))), some (.int (nI (w))), some (.int (nI (e))), some (.int (nI (k)))]) (st' := [.int (nI (k)), .int (nI (600 * e)), .ref (ad 22)]) rfl rfl (Nat.le_of_ble_eq_true rfl) ?_
                  refine VR.addN h (by decide +kernel) (Nat.le_of_ble_eq_true rfl) ?_
                  refine VR.blk h [(.aload_n 0, 1)] (by decide +kernel) (pc' := 103) (ls' := [some (.ref am), some (.int (nI (b))), some (.int (nI (w))), some (.int (nI (e))), some (.int (nI (k)))]) (st' := [.ref am, .int (nI ((600 * e) + k)), .ref (ad 22)]) rfl rfl (Nat.le_of_ble_eq_true rfl) ?_
                  refine VR.getA h (j := 22) rfl (Or.inl wf_RX11_57) (by decide +kernel) ?_
                  refine VR.blk h [(.sipush 600, 3), (.aload_n 0, 1)] (by decide +kernel) (pc' := 110) (ls' := [some (.ref am), some (.int (nI (b))), some (.int (nI (w))), some (.int (nI (e))), some (.int (nI (k)))]) (st' := [.ref am, .int (nI (600)), .ref (ad 22), .int (nI ((600 * e) + k)), .ref (ad 22)]) rfl rfl (Nat.le_of_ble_eq_true rfl) ?_
                  refine VR.getA h (j := 39) rfl (Or.inl wf_RX11_105) (by decide +kernel) ?_
                  refine VR.blk h [(.iload_n 1, 1)] (by decide +kernel) (pc' := 114) (ls' := [some (.ref am), some (.int (nI (b))), some (.int (nI (w))), some (.int (nI (e))), some (.int (nI (k)))]) (st' := [.int (nI (b)), .ref (ad 39), .int (nI (600)), .ref (ad 22), .int (nI ((600 * e) + k)), .ref (ad 22)]) rfl rfl (Nat.le_of_ble_eq_true rfl) ?_
                  refine VR.iald h (j := 39) (i := b) rfl rfl (by show _ < 3; omega) (by decide +kernel) (v := (nI (tn A1 39 b))) ((mval_1 rfl).trans (congrArg nI d39)) ?_
                  have nb114 := hB.2 39 b
                  refine VR.mulN h (by decide +kernel) (Nat.le_of_ble_eq_true rfl) ?_
                  refine VR.blk h [(.iload 4, 2)] (by decide +kernel) (pc' := 118) (ls' := [some (.ref am), some (.int (nI (b))), some (.int (nI (w))), some (.int (nI (e))), some (.int (nI (k)))]) (st' := [.int (nI (k)), .int (nI (600 * (tn A1 39 b))), .ref (ad 22), .int (nI ((600 * e) + k)), .ref (ad 22)]) rfl rfl (Nat.le_of_ble_eq_true rfl) ?_
                  refine VR.addN h (by decide +kernel) (Nat.le_of_ble_eq_true rfl) ?_
                  refine VR.iald h (j := 22) (i := (600 * (tn A1 39 b)) + k) rfl rfl (by show _ < 7200; omega) (by decide +kernel) (v := (nI (tn G 22 ((600 * (tn A1 39 b)) + k)))) (mval_1 rfl) ?_
                  refine VR.iastN h (j := 22) (i := (600 * e) + k) rfl rfl (by show _ < 7200; omega) (by decide +kernel) ?_
                  refine VR.blk h [(.aload_n 0, 1)] (by decide +kernel) (pc' := 122) (ls' := [some (.ref am), some (.int (nI (b))), some (.int (nI (w))), some (.int (nI (e))), some (.int (nI (k)))]) (st' := [.ref am]) rfl rfl (Nat.le_of_ble_eq_true rfl) ?_
                  refine VR.getA h (j := 23) rfl (Or.inl wf_RX11_60) (by decide +kernel) ?_
                  refine VR.blk h [(.sipush 600, 3), (.iload_n 3, 1)] (by decide +kernel) (pc' := 129) (ls' := [some (.ref am), some (.int (nI (b))), some (.int (nI (w))), some (.int (nI (e))), some (.int (nI (k)))]) (st' := [.int (nI (e)), .int (nI (600)), .ref (ad 23)]) rfl rfl (Nat.le_of_ble_eq_true rfl) ?_
                  refine VR.mulN h (by decide +kernel) (Nat.le_of_ble_eq_true rfl) ?_
                  refine VR.blk h [(.iload 4, 2)] (by decide +kernel) (pc' := 132) (ls' := [some (.ref am), some (.int (nI (b))), some (.int (nI (w))), some (.int (nI (e))), some (.int (nI (k)))]) (st' := [.int (nI (k)), .int (nI (600 * e)), .ref (ad 23)]) rfl rfl (Nat.le_of_ble_eq_true rfl) ?_
                  refine VR.addN h (by decide +kernel) (Nat.le_of_ble_eq_true rfl) ?_
                  refine VR.blk h [(.aload_n 0, 1)] (by decide +kernel) (pc' := 134) (ls' := [some (.ref am), some (.int (nI (b))), some (.int (nI (w))), some (.int (nI (e))), some (.int (nI (k)))]) (st' := [.ref am, .int (nI ((600 * e) + k)), .ref (ad 23)]) rfl rfl (Nat.le_of_ble_eq_true rfl) ?_
                  refine VR.getA h (j := 23) rfl (Or.inl wf_RX11_60) (by decide +kernel) ?_
                  refine VR.blk h [(.sipush 600, 3), (.aload_n 0, 1)] (by decide +kernel) (pc' := 141) (ls' := [some (.ref am), some (.int (nI (b))), some (.int (nI (w))), some (.int (nI (e))), some (.int (nI (k)))]) (st' := [.ref am, .int (nI (600)), .ref (ad 23), .int (nI ((600 * e) + k)), .ref (ad 23)]) rfl rfl (Nat.le_of_ble_eq_true rfl) ?_
                  refine VR.getA h (j := 39) rfl (Or.inl wf_RX11_105) (by decide +kernel) ?_
                  refine VR.blk h [(.iload_n 1, 1)] (by decide +kernel) (pc' := 145) (ls' := [some (.ref am), some (.int (nI (b))), some (.int (nI (w))), some (.int (nI (e))), some (.int (nI (k)))]) (st' := [.int (nI (b)), .ref (ad 39), .int (nI (600)), .ref (ad 23), .int (nI ((600 * e) + k)), .ref (ad 23)]) rfl rfl (Nat.le_of_ble_eq_true rfl) ?_
                  refine VR.iald h (j := 39) (i := b) rfl rfl (by show _ < 3; omega) (by decide +kernel) (v := (nI (tn A1 39 b))) ((mval_1 rfl).trans (congrArg nI d39)) ?_
                  have nb132 := hB.2 39 b
                  refine VR.mulN h (by decide +kernel) (Nat.le_of_ble_eq_true rfl) ?_
                  refine VR.blk h [(.iload 4, 2)] (by decide +kernel) (pc' := 149) (ls' := [some (.ref am), some (.int (nI (b))), some (.int (nI (w))), some (.int (nI (e))), some (.int (nI (k)))]) (st' := [.int (nI (k)), .int (nI (600 * (tn A1 39 b))), .ref (ad 23), .int (nI ((600 * e) + k)), .ref (ad 23)]) rfl rfl (Nat.le_of_ble_eq_true rfl) ?_
                  refine VR.addN h (by decide +kernel) (Nat.le_of_ble_eq_true rfl) ?_
                  refine VR.iald h (j := 23) (i := (600 * (tn A1 39 b)) + k) rfl rfl (by show _ < 7200; omega) (by decide +kernel) (v := (tr G 23 ((600 * (tn A1 39 b)) + k))) (mval_3 rfl) ?_
                  refine VR.iastR h (j := 23) (i := (600 * e) + k) rfl rfl (by show _ < 7200; omega) (by decide +kernel) ?_
                  refine VR.incN h (x := k) (i := 4) (by decide +kernel) rfl (Nat.le_of_ble_eq_true rfl) ?_
                  refine VR.eqL (ls' := [some (.ref am), some (.int (nI (b))), some (.int (nI (w))), some (.int (nI (e))), some (.int (nI (k + 1)))]) rfl ?_
                  refine VR.goto h (off := -76) (tgt := 79) (by decide +kernel) (by decide) ?_
                  refine VR.eqA (A' := (dcL (riF A1 e) e (tn A1 39 b) ((k + 1)))) (by rw [dcL, hG]; rfl) ?_
                  refine VR.eqL (ls' := [some (.ref am), some (.int (nI (b))), some (.int (nI (w))), some (.int (nI (e))), some (.int (nI ((k + 1))))]) rfl ?_
                  exact ih79 (tn A1 40 b - (k + 1)) (by omega) (k + 1) rfl (by omega)
            refine VR.eqA (A' := (dcL (riF A1 e) e (tn A1 39 b) 0)) rfl ?_
            refine VR.eqL (ls' := [some (.ref am), some (.int (nI (b))), some (.int (nI (w))), some (.int (nI (e))), some (.int (nI (0)))]) rfl ?_
            exact loop79 _ 0 rfl (Nat.zero_le _)
          · have q49_40 := ((nI_eq (by omega) (by omega)).mp q)
            clear q
            exfalso; omega
        · have q27_31 : ¬ _ := (fun z => q ((nI_ltI (by omega) (by omega)).mpr z))
          clear q
          exfalso; omega

set_option maxRecDepth 100000 in
set_option maxHeartbeats 4000000 in
theorem r_deliver {l : Launch} {D : va_G} {tc : Nat → ClassId} {am : Nat} {ad : Nat → Nat} (hls : l.stackTraces = false) (A : TS) (A1 : TS) (k9 s9 K : Nat) (hA1 : A1 = sf A 0 0) (hk : k9 < tf A1 53) (hl : tf A1 53 ≤ 250) (hB : NB K A1) (hK : K < 1999980000) (hs9 : tn A1 45 k9 = s9) (h10 : s9 < 10) (he : tn A1 46 k9 < 12) (hop : s9 < 6 → tn A1 48 k9 ≠ 0) (h0 : s9 = 0 → tb (tkF A1 k9) 30 (tn A1 46 k9) = true → RM l D tc am ad yX11_reads cX11_reads 5 (none) 3 [.ref am, .int (nI (tn A1 46 k9)), .int (nI (tn A1 48 k9 - 1))] (tkF A1 k9) (none) (exeF (tkF A1 k9) (tn A1 46 k9) (tn A1 48 k9 - 1))) (h5 : s9 = 5 → tb (tkF A1 k9) 30 (tn A1 46 k9) = true → RM l D tc am ad yX11_readsSyncNow cX11_readsSyncNow 4 (none) 2 [.ref am, .int (nI (tn A1 46 k9)), .int (nI (tn A1 48 k9 - 1))] (tkF A1 k9) (none) (snowF (tkF A1 k9) (tn A1 46 k9) (tn A1 48 k9 - 1))) (h7 : s9 = 7 → tb (tkF A1 k9) 30 (tn A1 46 k9) = true → RM l D tc am ad yX11_readsAck cX11_readsAck 9 (none) 3 [.ref am, .int (nI (tn A1 46 k9)), .int (nI (tn A1 47 k9)), .int (nI (tn A1 49 k9)), .int (nI (tn A1 50 k9))] (tkF A1 k9) (none) (ackF (tkF A1 k9) (tn A1 46 k9) (tn A1 47 k9) (tn A1 49 k9) (tn A1 50 k9))) (h6 : s9 = 6 → RM l D tc am ad yX11_readsSync cX11_readsSync 5 (none) 1 [.ref am, .int (nI (tn A1 47 k9)), .int (nI (tn A1 46 k9)), .int (nI (tn A1 49 k9)), .int (nI (tn A1 50 k9))] (tkF A1 k9) (none) (rsynF (tkF A1 k9) (tn A1 47 k9) (tn A1 46 k9) (tn A1 49 k9) (tn A1 50 k9))) (h1 : s9 = 1 → RM l D tc am ad yX11_readsRecord cX11_readsRecord 5 (none) 2 [.ref am, .int (nI (tn A1 47 k9)), .int (nI (tn A1 46 k9)), .int (nI (tn A1 48 k9 - 1))] (tkF A1 k9) (none) (recF (tkF A1 k9) (tn A1 47 k9) (tn A1 46 k9) (tn A1 48 k9 - 1))) (h8 : s9 = 8 → RM l D tc am ad yX11_readsGc cX11_readsGc 8 (none) 1 [.ref am, .int (nI (tn A1 47 k9)), .int (nI (tn A1 46 k9)), .int (nI (tn A1 49 k9))] (tkF A1 k9) (none) (gcF (tkF A1 k9) (tn A1 47 k9) (tn A1 46 k9) (tn A1 49 k9))) (h9 : s9 = 9 → RM l D tc am ad yX11_readsReset cX11_readsReset 3 (none) 0 [.ref am, .int (nI (tn A1 47 k9)), .int (nI (tn A1 46 k9))] (tkF A1 k9) (none) (rstF (tkF A1 k9) (tn A1 47 k9) (tn A1 46 k9))) (h2 : s9 = 2 ∨ s9 = 3 ∨ s9 = 4 → RM l D tc am ad yX11_readsClient cX11_readsClient 8 (none) 2 [.ref am, .int (nI s9), .int (nI (tn A1 46 k9)), .int (nI (tn A1 48 k9 - 1)), .int (nI (tn A1 50 k9)), .int (tr A1 51 k9), .int (bI (tb A1 52 k9))] (tkF A1 k9) (none) (rcF (tkF A1 k9) s9 (tn A1 46 k9) (tn A1 48 k9 - 1) (tn A1 50 k9) (tr A1 51 k9) (tb A1 52 k9))) : RM l D tc am ad yX11_deliver cX11_deliver 10 (some .int) 4 [.ref am, .int (nI (k9))] A (some (.int (nI (tf (dlvS A1 k9 s9) 53)))) (dlvS A1 k9 s9) := by
  refine RM.of hls (by decide +kernel) (by simp [Value.category]) (Nat.le_of_ble_eq_true rfl) (fun A0 p e9 s m args below meth c S0 sz Q h hr hA hQ => ?_)
  refine VR.eqL (ls' := [some (.ref am), some (.int (nI (k9))), none, none, none, none, none, none, none, none]) rfl ?_
  refine VR.blk h [(.aload_n 0, 1), (.iconst 0, 1)] (by decide +kernel) (pc' := 2) (ls' := [some (.ref am), some (.int (nI (k9))), none, none, none, none, none, none, none, none]) (st' := [.int (nI (0)), .ref am]) rfl rfl (Nat.le_of_ble_eq_true rfl) ?_
  refine VR.putI h (j := 0) rfl rfl rfl (Or.inl wf_RX11_1) (by decide +kernel) ?_
  refine VR.eqA (A' := A1) hA1 ?_
  refine VR.blk h [(.aload_n 0, 1), (.aload_n 0, 1), (.iload_n 1, 1)] (by decide +kernel) (pc' := 8) (ls' := [some (.ref am), some (.int (nI (k9))), none, none, none, none, none, none, none, none]) (st' := [.int (nI (k9)), .ref am, .ref am]) rfl rfl (Nat.le_of_ble_eq_true rfl) ?_
  refine VR.call h (np := 1) (st := [.ref am]) (r_noLetter_ hls A1 (noIx_nI (by omega) (by omega))) wc_X11_noLetter wn_RX11 (Or.inl wm_RX11_257) wi_X11_noLetter we_X11_noLetter (by decide +kernel) rfl (by decide) (by decide) (by simp [Value.category]) (by decide +kernel) rfl ?_
  refine VR.blk h [(.iconst 1, 1)] (by decide +kernel) (pc' := 12) (ls' := [some (.ref am), some (.int (nI (k9))), none, none, none, none, none, none, none, none]) (st' := [.int (nI (1)), .int (bI (false)), .ref am]) rfl rfl (Nat.le_of_ble_eq_true rfl) ?_
  refine VR.call h (np := 2) (st := []) (r_throwsN hls A1 1) wc_X11_throwsIf wn_RX11 (Or.inl wm_RX11_247) wi_X11_throwsIf we_X11_throwsIf (by decide +kernel) rfl (by decide) (by decide) (by simp [Value.category]) (by decide +kernel) rfl ?_
  refine VR.if_eq h (off := 5) (by decide +kernel) (tgt := 20) (by decide) (fun _ => ?_) (fun q => absurd (by decide) q)
  refine VR.blk h [(.aload_n 0, 1)] (by decide +kernel) (pc' := 21) (ls' := [some (.ref am), some (.int (nI (k9))), none, none, none, none, none, none, none, none]) (st' := [.ref am]) rfl rfl (Nat.le_of_ble_eq_true rfl) ?_
  refine VR.getA h (j := 45) rfl (Or.inl wf_RX11_123) (by decide +kernel) ?_
  refine VR.blk h [(.iload_n 1, 1)] (by decide +kernel) (pc' := 25) (ls' := [some (.ref am), some (.int (nI (k9))), none, none, none, none, none, none, none, none]) (st' := [.int (nI (k9)), .ref (ad 45)]) rfl rfl (Nat.le_of_ble_eq_true rfl) ?_
  refine VR.iald h (j := 45) (i := k9) rfl rfl (by show _ < 250; omega) (by decide +kernel) (v := (nI (s9))) ((mval_1 rfl).trans (congrArg nI hs9)) ?_
  refine VR.blk h [(.istore_n 2, 1), (.aload_n 0, 1)] (by decide +kernel) (pc' := 28) (ls' := [some (.ref am), some (.int (nI (k9))), some (.int (nI (s9))), none, none, none, none, none, none, none]) (st' := [.ref am]) rfl rfl (Nat.le_of_ble_eq_true rfl) ?_
  refine VR.getA h (j := 46) rfl (Or.inl wf_RX11_126) (by decide +kernel) ?_
  refine VR.blk h [(.iload_n 1, 1)] (by decide +kernel) (pc' := 32) (ls' := [some (.ref am), some (.int (nI (k9))), some (.int (nI (s9))), none, none, none, none, none, none, none]) (st' := [.int (nI (k9)), .ref (ad 46)]) rfl rfl (Nat.le_of_ble_eq_true rfl) ?_
  refine VR.iald h (j := 46) (i := k9) rfl rfl (by show _ < 250; omega) (by decide +kernel) (v := (nI (tn A1 46 k9))) (mval_1 rfl) ?_
  have nb17 := hB.2 46 k9
  refine VR.blk h [(.istore_n 3, 1), (.aload_n 0, 1)] (by decide +kernel) (pc' := 35) (ls' := [some (.ref am), some (.int (nI (k9))), some (.int (nI (s9))), some (.int (nI (tn A1 46 k9))), none, none, none, none, none, none]) (st' := [.ref am]) rfl rfl (Nat.le_of_ble_eq_true rfl) ?_
  refine VR.getA h (j := 47) rfl (Or.inl wf_RX11_129) (by decide +kernel) ?_
  refine VR.blk h [(.iload_n 1, 1)] (by decide +kernel) (pc' := 39) (ls' := [some (.ref am), some (.int (nI (k9))), some (.int (nI (s9))), some (.int (nI (tn A1 46 k9))), none, none, none, none, none, none]) (st' := [.int (nI (k9)), .ref (ad 47)]) rfl rfl (Nat.le_of_ble_eq_true rfl) ?_
  refine VR.iald h (j := 47) (i := k9) rfl rfl (by show _ < 250; omega) (by decide +kernel) (v := (nI (tn A1 47 k9))) (mval_1 rfl) ?_
  have nb22 := hB.2 47 k9
  refine VR.blk h [(.istore 4, 2), (.aload_n 0, 1)] (by decide +kernel) (pc' := 43) (ls' := [some (.ref am), some (.int (nI (k9))), some (.int (nI (s9))), some (.int (nI (tn A1 46 k9))), some (.int (nI (tn A1 47 k9))), none, none, none, none, none]) (st' := [.ref am]) rfl rfl (Nat.le_of_ble_eq_true rfl) ?_
  refine VR.getA h (j := 48) rfl (Or.inl wf_RX11_132) (by decide +kernel) ?_
  refine VR.blk h [(.iload_n 1, 1)] (by decide +kernel) (pc' := 47) (ls' := [some (.ref am), some (.int (nI (k9))), some (.int (nI (s9))), some (.int (nI (tn A1 46 k9))), some (.int (nI (tn A1 47 k9))), none, none, none, none, none]) (st' := [.int (nI (k9)), .ref (ad 48)]) rfl rfl (Nat.le_of_ble_eq_true rfl) ?_
  refine VR.iald h (j := 48) (i := k9) rfl rfl (by show _ < 250; omega) (by decide +kernel) (v := (oI (tn A1 48 k9))) (mval_2 rfl) ?_
  have nb27 := hB.2 48 k9
  refine VR.blk h [(.istore 5, 2), (.aload_n 0, 1)] (by decide +kernel) (pc' := 51) (ls' := [some (.ref am), some (.int (nI (k9))), some (.int (nI (s9))), some (.int (nI (tn A1 46 k9))), some (.int (nI (tn A1 47 k9))), some (.int (oI (tn A1 48 k9))), none, none, none, none]) (st' := [.ref am]) rfl rfl (Nat.le_of_ble_eq_true rfl) ?_
  refine VR.getA h (j := 49) rfl (Or.inl wf_RX11_135) (by decide +kernel) ?_
  refine VR.blk h [(.iload_n 1, 1)] (by decide +kernel) (pc' := 55) (ls' := [some (.ref am), some (.int (nI (k9))), some (.int (nI (s9))), some (.int (nI (tn A1 46 k9))), some (.int (nI (tn A1 47 k9))), some (.int (oI (tn A1 48 k9))), none, none, none, none]) (st' := [.int (nI (k9)), .ref (ad 49)]) rfl rfl (Nat.le_of_ble_eq_true rfl) ?_
  refine VR.iald h (j := 49) (i := k9) rfl rfl (by show _ < 250; omega) (by decide +kernel) (v := (nI (tn A1 49 k9))) (mval_1 rfl) ?_
  have nb32 := hB.2 49 k9
  refine VR.blk h [(.istore 6, 2), (.aload_n 0, 1)] (by decide +kernel) (pc' := 59) (ls' := [some (.ref am), some (.int (nI (k9))), some (.int (nI (s9))), some (.int (nI (tn A1 46 k9))), some (.int (nI (tn A1 47 k9))), some (.int (oI (tn A1 48 k9))), some (.int (nI (tn A1 49 k9))), none, none, none]) (st' := [.ref am]) rfl rfl (Nat.le_of_ble_eq_true rfl) ?_
  refine VR.getA h (j := 50) rfl (Or.inl wf_RX11_138) (by decide +kernel) ?_
  refine VR.blk h [(.iload_n 1, 1)] (by decide +kernel) (pc' := 63) (ls' := [some (.ref am), some (.int (nI (k9))), some (.int (nI (s9))), some (.int (nI (tn A1 46 k9))), some (.int (nI (tn A1 47 k9))), some (.int (oI (tn A1 48 k9))), some (.int (nI (tn A1 49 k9))), none, none, none]) (st' := [.int (nI (k9)), .ref (ad 50)]) rfl rfl (Nat.le_of_ble_eq_true rfl) ?_
  refine VR.iald h (j := 50) (i := k9) rfl rfl (by show _ < 250; omega) (by decide +kernel) (v := (nI (tn A1 50 k9))) (mval_1 rfl) ?_
  have nb37 := hB.2 50 k9
  refine VR.blk h [(.istore 7, 2), (.aload_n 0, 1)] (by decide +kernel) (pc' := 67) (ls' := [some (.ref am), some (.int (nI (k9))), some (.int (nI (s9))), some (.int (nI (tn A1 46 k9))), some (.int (nI (tn A1 47 k9))), some (.int (oI (tn A1 48 k9))), some (.int (nI (tn A1 49 k9))), some (.int (nI (tn A1 50 k9))), none, none]) (st' := [.ref am]) rfl rfl (Nat.le_of_ble_eq_true rfl) ?_
  refine VR.getA h (j := 51) rfl (Or.inl wf_RX11_141) (by decide +kernel) ?_
  refine VR.blk h [(.iload_n 1, 1)] (by decide +kernel) (pc' := 71) (ls' := [some (.ref am), some (.int (nI (k9))), some (.int (nI (s9))), some (.int (nI (tn A1 46 k9))), some (.int (nI (tn A1 47 k9))), some (.int (oI (tn A1 48 k9))), some (.int (nI (tn A1 49 k9))), some (.int (nI (tn A1 50 k9))), none, none]) (st' := [.int (nI (k9)), .ref (ad 51)]) rfl rfl (Nat.le_of_ble_eq_true rfl) ?_
  refine VR.iald h (j := 51) (i := k9) rfl rfl (by show _ < 250; omega) (by decide +kernel) (v := (tr A1 51 k9)) (mval_3 rfl) ?_
  refine VR.blk h [(.istore 8, 2), (.aload_n 0, 1)] (by decide +kernel) (pc' := 75) (ls' := [some (.ref am), some (.int (nI (k9))), some (.int (nI (s9))), some (.int (nI (tn A1 46 k9))), some (.int (nI (tn A1 47 k9))), some (.int (oI (tn A1 48 k9))), some (.int (nI (tn A1 49 k9))), some (.int (nI (tn A1 50 k9))), some (.int (tr A1 51 k9)), none]) (st' := [.ref am]) rfl rfl (Nat.le_of_ble_eq_true rfl) ?_
  refine VR.getA h (j := 52) rfl (Or.inl wf_RX11_144) (by decide +kernel) ?_
  refine VR.blk h [(.iload_n 1, 1)] (by decide +kernel) (pc' := 79) (ls' := [some (.ref am), some (.int (nI (k9))), some (.int (nI (s9))), some (.int (nI (tn A1 46 k9))), some (.int (nI (tn A1 47 k9))), some (.int (oI (tn A1 48 k9))), some (.int (nI (tn A1 49 k9))), some (.int (nI (tn A1 50 k9))), some (.int (tr A1 51 k9)), none]) (st' := [.int (nI (k9)), .ref (ad 52)]) rfl rfl (Nat.le_of_ble_eq_true rfl) ?_
  refine VR.bald h (j := 52) (i := k9) rfl rfl (by show _ < 250; omega) (by decide +kernel) (v := (bI (tb A1 52 k9))) (mval_4 rfl) ?_
  refine VR.blk h [(.istore 9, 2), (.aload_n 0, 1), (.iload_n 1, 1)] (by decide +kernel) (pc' := 84) (ls' := [some (.ref am), some (.int (nI (k9))), some (.int (nI (s9))), some (.int (nI (tn A1 46 k9))), some (.int (nI (tn A1 47 k9))), some (.int (oI (tn A1 48 k9))), some (.int (nI (tn A1 49 k9))), some (.int (nI (tn A1 50 k9))), some (.int (tr A1 51 k9)), some (.int (bI (tb A1 52 k9)))]) (st' := [.int (nI (k9)), .ref am]) rfl rfl (Nat.le_of_ble_eq_true rfl) ?_
  refine VR.call h (np := 1) (st := []) (r_takes hls A1 k9 K hk hl hB (by omega)) wc_X11_takes wn_RX11 (Or.inl wm_RX11_260) wi_X11_takes we_X11_takes (by decide +kernel) rfl (by decide) (by decide) (by simp [Value.category]) (by decide +kernel) rfl ?_
  refine VR.blk h [(.iload_n 2, 1)] (by decide +kernel) (pc' := 88) (ls' := [some (.ref am), some (.int (nI (k9))), some (.int (nI (s9))), some (.int (nI (tn A1 46 k9))), some (.int (nI (tn A1 47 k9))), some (.int (oI (tn A1 48 k9))), some (.int (nI (tn A1 49 k9))), some (.int (nI (tn A1 50 k9))), some (.int (tr A1 51 k9)), some (.int (bI (tb A1 52 k9)))]) (st' := [.int (nI (s9))]) rfl rfl (Nat.le_of_ble_eq_true rfl) ?_
  have tsw : s9 = 0 ∨ s9 = 1 ∨ s9 = 2 ∨ s9 = 3 ∨ s9 = 4 ∨ s9 = 5 ∨ s9 = 6 ∨ s9 = 7 ∨ s9 = 8 ∨ s9 = 9 := by omega
  rcases tsw with rfl | rfl | rfl | rfl | rfl | rfl | rfl | rfl | rfl | rfl
  · skip
    refine VR.tableIn h (dflt := 165) (hi := 9) (offs := #[56, 131, 165, 165, 165, 75, 117, 94, 143, 155]) (len := 56) (x := 0) (off := 56) (by decide) (by decide +kernel) (by decide) rfl (tgt := 144) (by decide) ?_
    refine VR.eqL (ls' := [some (.ref am), some (.int (nI (k9))), some (.int (nI (0))), some (.int (nI (tn A1 46 k9))), some (.int (nI (tn A1 47 k9))), some (.int (nI ((tn A1 48 k9) - 1))), some (.int (nI (tn A1 49 k9))), some (.int (nI (tn A1 50 k9))), some (.int (tr A1 51 k9)), some (.int (bI (tb A1 52 k9)))]) (by rw [oI_posI (hop (by omega))]) ?_
    refine VR.blk h [(.aload_n 0, 1)] (by decide +kernel) (pc' := 145) (ls' := [some (.ref am), some (.int (nI (k9))), some (.int (nI (0))), some (.int (nI (tn A1 46 k9))), some (.int (nI (tn A1 47 k9))), some (.int (nI ((tn A1 48 k9) - 1))), some (.int (nI (tn A1 49 k9))), some (.int (nI (tn A1 50 k9))), some (.int (tr A1 51 k9)), some (.int (bI (tb A1 52 k9)))]) (st' := [.ref am]) rfl rfl (Nat.le_of_ble_eq_true rfl) ?_
    refine VR.getA h (j := 30) rfl (Or.inl wf_RX11_81) (by decide +kernel) ?_
    refine VR.blk h [(.iload_n 3, 1)] (by decide +kernel) (pc' := 149) (ls' := [some (.ref am), some (.int (nI (k9))), some (.int (nI (0))), some (.int (nI (tn A1 46 k9))), some (.int (nI (tn A1 47 k9))), some (.int (nI ((tn A1 48 k9) - 1))), some (.int (nI (tn A1 49 k9))), some (.int (nI (tn A1 50 k9))), some (.int (tr A1 51 k9)), some (.int (bI (tb A1 52 k9)))]) (st' := [.int (nI (tn A1 46 k9)), .ref (ad 30)]) rfl rfl (Nat.le_of_ble_eq_true rfl) ?_
    refine VR.bald h (j := 30) (i := tn A1 46 k9) rfl rfl (by show _ < 12; omega) (by decide +kernel) (v := (bI (tb (tkF A1 k9) 30 (tn A1 46 k9)))) (mval_4 rfl) ?_
    refine VR.if_eq h (off := 117) (by decide +kernel) (tgt := 267) (by decide) (fun q => ?_) (fun q => ?_)
    · have q150_58 := (bI_0.mp q)
      clear q
      refine VR.blk h [(.aload_n 0, 1)] (by decide +kernel) (pc' := 268) (ls' := [some (.ref am), some (.int (nI (k9))), some (.int (nI (0))), some (.int (nI (tn A1 46 k9))), some (.int (nI (tn A1 47 k9))), some (.int (nI ((tn A1 48 k9) - 1))), some (.int (nI (tn A1 49 k9))), some (.int (nI (tn A1 50 k9))), some (.int (tr A1 51 k9)), some (.int (bI (tb A1 52 k9)))]) (st' := [.ref am]) rfl rfl (Nat.le_of_ble_eq_true rfl) ?_
      refine VR.getI h (j := 53) rfl (Or.inl wf_RX11_170) (by decide +kernel) (v := tf (tkF A1 k9) 53) rfl ?_
      exact VR.iret h hA hQ hr rfl (congrArg (fun z => some (Value.int (nI (tf z 53)))) (show dlvS A1 k9 0 = tkF A1 k9 from (if_neg (fun z => Bool.noConfusion (z.symm.trans q150_58))))) (show tkF A1 k9 = dlvS A1 k9 0 from (show dlvS A1 k9 0 = tkF A1 k9 from (if_neg (fun z => Bool.noConfusion (z.symm.trans q150_58)))).symm) (by decide +kernel)
    · have q150_58 := (bI_1 (fun z => q (bI_0.mpr z)))
      clear q
      refine VR.blk h [(.aload_n 0, 1), (.iload_n 3, 1), (.iload 5, 2)] (by decide +kernel) (pc' := 157) (ls' := [some (.ref am), some (.int (nI (k9))), some (.int (nI (0))), some (.int (nI (tn A1 46 k9))), some (.int (nI (tn A1 47 k9))), some (.int (nI ((tn A1 48 k9) - 1))), some (.int (nI (tn A1 49 k9))), some (.int (nI (tn A1 50 k9))), some (.int (tr A1 51 k9)), some (.int (bI (tb A1 52 k9)))]) (st' := [.int (nI ((tn A1 48 k9) - 1)), .int (nI (tn A1 46 k9)), .ref am]) rfl rfl (Nat.le_of_ble_eq_true rfl) ?_
      refine VR.call h (np := 2) (st := []) (h0 rfl q150_58) wc_X11_reads wn_RX11 (Or.inl wm_RX11_263) wi_X11_reads we_X11_reads (by decide +kernel) rfl (by decide) (by decide) (by simp [Value.category]) (by decide +kernel) rfl ?_
      refine VR.goto h (off := 107) (tgt := 267) (by decide +kernel) (by decide) ?_
      refine VR.blk h [(.aload_n 0, 1)] (by decide +kernel) (pc' := 268) (ls' := [some (.ref am), some (.int (nI (k9))), some (.int (nI (0))), some (.int (nI (tn A1 46 k9))), some (.int (nI (tn A1 47 k9))), some (.int (nI ((tn A1 48 k9) - 1))), some (.int (nI (tn A1 49 k9))), some (.int (nI (tn A1 50 k9))), some (.int (tr A1 51 k9)), some (.int (bI (tb A1 52 k9)))]) (st' := [.ref am]) rfl rfl (Nat.le_of_ble_eq_true rfl) ?_
      refine VR.getI h (j := 53) rfl (Or.inl wf_RX11_170) (by decide +kernel) (v := tf (exeF (tkF A1 k9) (tn A1 46 k9) ((tn A1 48 k9) - 1)) 53) rfl ?_
      exact VR.iret h hA hQ hr rfl (congrArg (fun z => some (Value.int (nI (tf z 53)))) (show dlvS A1 k9 0 = exeF (tkF A1 k9) (tn A1 46 k9) ((tn A1 48 k9) - 1) from (if_pos q150_58))) (show exeF (tkF A1 k9) (tn A1 46 k9) ((tn A1 48 k9) - 1) = dlvS A1 k9 0 from (show dlvS A1 k9 0 = exeF (tkF A1 k9) (tn A1 46 k9) ((tn A1 48 k9) - 1) from (if_pos q150_58)).symm) (by decide +kernel)
  · skip
    refine VR.tableIn h (dflt := 165) (hi := 9) (offs := #[56, 131, 165, 165, 165, 75, 117, 94, 143, 155]) (len := 56) (x := 1) (off := 131) (by decide) (by decide +kernel) (by decide) rfl (tgt := 219) (by decide) ?_
    refine VR.eqL (ls' := [some (.ref am), some (.int (nI (k9))), some (.int (nI (1))), some (.int (nI (tn A1 46 k9))), some (.int (nI (tn A1 47 k9))), some (.int (nI ((tn A1 48 k9) - 1))), some (.int (nI (tn A1 49 k9))), some (.int (nI (tn A1 50 k9))), some (.int (tr A1 51 k9)), some (.int (bI (tb A1 52 k9)))]) (by rw [oI_posI (hop (by omega))]) ?_
    refine VR.blk h [(.aload_n 0, 1), (.iload 4, 2), (.iload_n 3, 1), (.iload 5, 2)] (by decide +kernel) (pc' := 225) (ls' := [some (.ref am), some (.int (nI (k9))), some (.int (nI (1))), some (.int (nI (tn A1 46 k9))), some (.int (nI (tn A1 47 k9))), some (.int (nI ((tn A1 48 k9) - 1))), some (.int (nI (tn A1 49 k9))), some (.int (nI (tn A1 50 k9))), some (.int (tr A1 51 k9)), some (.int (bI (tb A1 52 k9)))]) (st' := [.int (nI ((tn A1 48 k9) - 1)), .int (nI (tn A1 46 k9)), .int (nI (tn A1 47 k9)), .ref am]) rfl rfl (Nat.le_of_ble_eq_true rfl) ?_
    refine VR.call h (np := 3) (st := []) (h1 rfl) wc_X11_readsRecord wn_RX11 (Or.inl wm_RX11_275) wi_X11_readsRecord we_X11_readsRecord (by decide +kernel) rfl (by decide) (by decide) (by simp [Value.category]) (by decide +kernel) rfl ?_
    refine VR.goto h (off := 39) (tgt := 267) (by decide +kernel) (by decide) ?_
    refine VR.blk h [(.aload_n 0, 1)] (by decide +kernel) (pc' := 268) (ls' := [some (.ref am), some (.int (nI (k9))), some (.int (nI (1))), some (.int (nI (tn A1 46 k9))), some (.int (nI (tn A1 47 k9))), some (.int (nI ((tn A1 48 k9) - 1))), some (.int (nI (tn A1 49 k9))), some (.int (nI (tn A1 50 k9))), some (.int (tr A1 51 k9)), some (.int (bI (tb A1 52 k9)))]) (st' := [.ref am]) rfl rfl (Nat.le_of_ble_eq_true rfl) ?_
    refine VR.getI h (j := 53) rfl (Or.inl wf_RX11_170) (by decide +kernel) (v := tf (recF (tkF A1 k9) (tn A1 47 k9) (tn A1 46 k9) ((tn A1 48 k9) - 1)) 53) rfl ?_
    exact VR.iret h hA hQ hr rfl (congrArg (fun z => some (Value.int (nI (tf z 53)))) (show dlvS A1 k9 1 = recF (tkF A1 k9) (tn A1 47 k9) (tn A1 46 k9) ((tn A1 48 k9) - 1) from rfl)) (show recF (tkF A1 k9) (tn A1 47 k9) (tn A1 46 k9) ((tn A1 48 k9) - 1) = dlvS A1 k9 1 from (show dlvS A1 k9 1 = recF (tkF A1 k9) (tn A1 47 k9) (tn A1 46 k9) ((tn A1 48 k9) - 1) from rfl).symm) (by decide +kernel)
  · skip
    refine VR.tableIn h (dflt := 165) (hi := 9) (offs := #[56, 131, 165, 165, 165, 75, 117, 94, 143, 155]) (len := 56) (x := 2) (off := 165) (by decide) (by decide +kernel) (by decide) rfl (tgt := 253) (by decide) ?_
    refine VR.eqL (ls' := [some (.ref am), some (.int (nI (k9))), some (.int (nI (2))), some (.int (nI (tn A1 46 k9))), some (.int (nI (tn A1 47 k9))), some (.int (nI ((tn A1 48 k9) - 1))), some (.int (nI (tn A1 49 k9))), some (.int (nI (tn A1 50 k9))), some (.int (tr A1 51 k9)), some (.int (bI (tb A1 52 k9)))]) (by rw [oI_posI (hop (by omega))]) ?_
    refine VR.blk h [(.aload_n 0, 1), (.iload_n 2, 1), (.iload_n 3, 1), (.iload 5, 2), (.iload 7, 2), (.iload 8, 2), (.iload 9, 2)] (by decide +kernel) (pc' := 264) (ls' := [some (.ref am), some (.int (nI (k9))), some (.int (nI (2))), some (.int (nI (tn A1 46 k9))), some (.int (nI (tn A1 47 k9))), some (.int (nI ((tn A1 48 k9) - 1))), some (.int (nI (tn A1 49 k9))), some (.int (nI (tn A1 50 k9))), some (.int (tr A1 51 k9)), some (.int (bI (tb A1 52 k9)))]) (st' := [.int (bI (tb A1 52 k9)), .int (tr A1 51 k9), .int (nI (tn A1 50 k9)), .int (nI ((tn A1 48 k9) - 1)), .int (nI (tn A1 46 k9)), .int (nI (2)), .ref am]) rfl rfl (Nat.le_of_ble_eq_true rfl) ?_
    refine VR.call h (np := 6) (st := []) (h2 (by omega)) wc_X11_readsClient wn_RX11 (Or.inl wm_RX11_285) wi_X11_readsClient we_X11_readsClient (by decide +kernel) rfl (by decide) (by decide) (by simp [Value.category]) (by decide +kernel) rfl ?_
    refine VR.blk h [(.aload_n 0, 1)] (by decide +kernel) (pc' := 268) (ls' := [some (.ref am), some (.int (nI (k9))), some (.int (nI (2))), some (.int (nI (tn A1 46 k9))), some (.int (nI (tn A1 47 k9))), some (.int (nI ((tn A1 48 k9) - 1))), some (.int (nI (tn A1 49 k9))), some (.int (nI (tn A1 50 k9))), some (.int (tr A1 51 k9)), some (.int (bI (tb A1 52 k9)))]) (st' := [.ref am]) rfl rfl (Nat.le_of_ble_eq_true rfl) ?_
    refine VR.getI h (j := 53) rfl (Or.inl wf_RX11_170) (by decide +kernel) (v := tf (rcF (tkF A1 k9) 2 (tn A1 46 k9) ((tn A1 48 k9) - 1) (tn A1 50 k9) (tr A1 51 k9) (tb A1 52 k9)) 53) rfl ?_
    exact VR.iret h hA hQ hr rfl (congrArg (fun z => some (Value.int (nI (tf z 53)))) (show dlvS A1 k9 2 = rcF (tkF A1 k9) 2 (tn A1 46 k9) ((tn A1 48 k9) - 1) (tn A1 50 k9) (tr A1 51 k9) (tb A1 52 k9) from rfl)) (show rcF (tkF A1 k9) 2 (tn A1 46 k9) ((tn A1 48 k9) - 1) (tn A1 50 k9) (tr A1 51 k9) (tb A1 52 k9) = dlvS A1 k9 2 from (show dlvS A1 k9 2 = rcF (tkF A1 k9) 2 (tn A1 46 k9) ((tn A1 48 k9) - 1) (tn A1 50 k9) (tr A1 51 k9) (tb A1 52 k9) from rfl).symm) (by decide +kernel)
  · skip
    refine VR.tableIn h (dflt := 165) (hi := 9) (offs := #[56, 131, 165, 165, 165, 75, 117, 94, 143, 155]) (len := 56) (x := 3) (off := 165) (by decide) (by decide +kernel) (by decide) rfl (tgt := 253) (by decide) ?_
    refine VR.eqL (ls' := [some (.ref am), some (.int (nI (k9))), some (.int (nI (3))), some (.int (nI (tn A1 46 k9))), some (.int (nI (tn A1 47 k9))), some (.int (nI ((tn A1 48 k9) - 1))), some (.int (nI (tn A1 49 k9))), some (.int (nI (tn A1 50 k9))), some (.int (tr A1 51 k9)), some (.int (bI (tb A1 52 k9)))]) (by rw [oI_posI (hop (by omega))]) ?_
    refine VR.blk h [(.aload_n 0, 1), (.iload_n 2, 1), (.iload_n 3, 1), (.iload 5, 2), (.iload 7, 2), (.iload 8, 2), (.iload 9, 2)] (by decide +kernel) (pc' := 264) (ls' := [some (.ref am), some (.int (nI (k9))), some (.int (nI (3))), some (.int (nI (tn A1 46 k9))), some (.int (nI (tn A1 47 k9))), some (.int (nI ((tn A1 48 k9) - 1))), some (.int (nI (tn A1 49 k9))), some (.int (nI (tn A1 50 k9))), some (.int (tr A1 51 k9)), some (.int (bI (tb A1 52 k9)))]) (st' := [.int (bI (tb A1 52 k9)), .int (tr A1 51 k9), .int (nI (tn A1 50 k9)), .int (nI ((tn A1 48 k9) - 1)), .int (nI (tn A1 46 k9)), .int (nI (3)), .ref am]) rfl rfl (Nat.le_of_ble_eq_true rfl) ?_
    refine VR.call h (np := 6) (st := []) (h2 (by omega)) wc_X11_readsClient wn_RX11 (Or.inl wm_RX11_285) wi_X11_readsClient we_X11_readsClient (by decide +kernel) rfl (by decide) (by decide) (by simp [Value.category]) (by decide +kernel) rfl ?_
    refine VR.blk h [(.aload_n 0, 1)] (by decide +kernel) (pc' := 268) (ls' := [some (.ref am), some (.int (nI (k9))), some (.int (nI (3))), some (.int (nI (tn A1 46 k9))), some (.int (nI (tn A1 47 k9))), some (.int (nI ((tn A1 48 k9) - 1))), some (.int (nI (tn A1 49 k9))), some (.int (nI (tn A1 50 k9))), some (.int (tr A1 51 k9)), some (.int (bI (tb A1 52 k9)))]) (st' := [.ref am]) rfl rfl (Nat.le_of_ble_eq_true rfl) ?_
    refine VR.getI h (j := 53) rfl (Or.inl wf_RX11_170) (by decide +kernel) (v := tf (rcF (tkF A1 k9) 3 (tn A1 46 k9) ((tn A1 48 k9) - 1) (tn A1 50 k9) (tr A1 51 k9) (tb A1 52 k9)) 53) rfl ?_
    exact VR.iret h hA hQ hr rfl (congrArg (fun z => some (Value.int (nI (tf z 53)))) (show dlvS A1 k9 3 = rcF (tkF A1 k9) 3 (tn A1 46 k9) ((tn A1 48 k9) - 1) (tn A1 50 k9) (tr A1 51 k9) (tb A1 52 k9) from rfl)) (show rcF (tkF A1 k9) 3 (tn A1 46 k9) ((tn A1 48 k9) - 1) (tn A1 50 k9) (tr A1 51 k9) (tb A1 52 k9) = dlvS A1 k9 3 from (show dlvS A1 k9 3 = rcF (tkF A1 k9) 3 (tn A1 46 k9) ((tn A1 48 k9) - 1) (tn A1 50 k9) (tr A1 51 k9) (tb A1 52 k9) from rfl).symm) (by decide +kernel)
  · skip
    refine VR.tableIn h (dflt := 165) (hi := 9) (offs := #[56, 131, 165, 165, 165, 75, 117, 94, 143, 155]) (len := 56) (x := 4) (off := 165) (by decide) (by decide +kernel) (by decide) rfl (tgt := 253) (by decide) ?_
    refine VR.eqL (ls' := [some (.ref am), some (.int (nI (k9))), some (.int (nI (4))), some (.int (nI (tn A1 46 k9))), some (.int (nI (tn A1 47 k9))), some (.int (nI ((tn A1 48 k9) - 1))), some (.int (nI (tn A1 49 k9))), some (.int (nI (tn A1 50 k9))), some (.int (tr A1 51 k9)), some (.int (bI (tb A1 52 k9)))]) (by rw [oI_posI (hop (by omega))]) ?_
    refine VR.blk h [(.aload_n 0, 1), (.iload_n 2, 1), (.iload_n 3, 1), (.iload 5, 2), (.iload 7, 2), (.iload 8, 2), (.iload 9, 2)] (by decide +kernel) (pc' := 264) (ls' := [some (.ref am), some (.int (nI (k9))), some (.int (nI (4))), some (.int (nI (tn A1 46 k9))), some (.int (nI (tn A1 47 k9))), some (.int (nI ((tn A1 48 k9) - 1))), some (.int (nI (tn A1 49 k9))), some (.int (nI (tn A1 50 k9))), some (.int (tr A1 51 k9)), some (.int (bI (tb A1 52 k9)))]) (st' := [.int (bI (tb A1 52 k9)), .int (tr A1 51 k9), .int (nI (tn A1 50 k9)), .int (nI ((tn A1 48 k9) - 1)), .int (nI (tn A1 46 k9)), .int (nI (4)), .ref am]) rfl rfl (Nat.le_of_ble_eq_true rfl) ?_
    refine VR.call h (np := 6) (st := []) (h2 (by omega)) wc_X11_readsClient wn_RX11 (Or.inl wm_RX11_285) wi_X11_readsClient we_X11_readsClient (by decide +kernel) rfl (by decide) (by decide) (by simp [Value.category]) (by decide +kernel) rfl ?_
    refine VR.blk h [(.aload_n 0, 1)] (by decide +kernel) (pc' := 268) (ls' := [some (.ref am), some (.int (nI (k9))), some (.int (nI (4))), some (.int (nI (tn A1 46 k9))), some (.int (nI (tn A1 47 k9))), some (.int (nI ((tn A1 48 k9) - 1))), some (.int (nI (tn A1 49 k9))), some (.int (nI (tn A1 50 k9))), some (.int (tr A1 51 k9)), some (.int (bI (tb A1 52 k9)))]) (st' := [.ref am]) rfl rfl (Nat.le_of_ble_eq_true rfl) ?_
    refine VR.getI h (j := 53) rfl (Or.inl wf_RX11_170) (by decide +kernel) (v := tf (rcF (tkF A1 k9) 4 (tn A1 46 k9) ((tn A1 48 k9) - 1) (tn A1 50 k9) (tr A1 51 k9) (tb A1 52 k9)) 53) rfl ?_
    exact VR.iret h hA hQ hr rfl (congrArg (fun z => some (Value.int (nI (tf z 53)))) (show dlvS A1 k9 4 = rcF (tkF A1 k9) 4 (tn A1 46 k9) ((tn A1 48 k9) - 1) (tn A1 50 k9) (tr A1 51 k9) (tb A1 52 k9) from rfl)) (show rcF (tkF A1 k9) 4 (tn A1 46 k9) ((tn A1 48 k9) - 1) (tn A1 50 k9) (tr A1 51 k9) (tb A1 52 k9) = dlvS A1 k9 4 from (show dlvS A1 k9 4 = rcF (tkF A1 k9) 4 (tn A1 46 k9) ((tn A1 48 k9) - 1) (tn A1 50 k9) (tr A1 51 k9) (tb A1 52 k9) from rfl).symm) (by decide +kernel)
  · skip
    refine VR.tableIn h (dflt := 165) (hi := 9) (offs := #[56, 131, 165, 165, 165, 75, 117, 94, 143, 155]) (len := 56) (x := 5) (off := 75) (by decide) (by decide +kernel) (by decide) rfl (tgt := 163) (by decide) ?_
    refine VR.eqL (ls' := [some (.ref am), some (.int (nI (k9))), some (.int (nI (5))), some (.int (nI (tn A1 46 k9))), some (.int (nI (tn A1 47 k9))), some (.int (nI ((tn A1 48 k9) - 1))), some (.int (nI (tn A1 49 k9))), some (.int (nI (tn A1 50 k9))), some (.int (tr A1 51 k9)), some (.int (bI (tb A1 52 k9)))]) (by rw [oI_posI (hop (by omega))]) ?_
    refine VR.blk h [(.aload_n 0, 1)] (by decide +kernel) (pc' := 164) (ls' := [some (.ref am), some (.int (nI (k9))), some (.int (nI (5))), some (.int (nI (tn A1 46 k9))), some (.int (nI (tn A1 47 k9))), some (.int (nI ((tn A1 48 k9) - 1))), some (.int (nI (tn A1 49 k9))), some (.int (nI (tn A1 50 k9))), some (.int (tr A1 51 k9)), some (.int (bI (tb A1 52 k9)))]) (st' := [.ref am]) rfl rfl (Nat.le_of_ble_eq_true rfl) ?_
    refine VR.getA h (j := 30) rfl (Or.inl wf_RX11_81) (by decide +kernel) ?_
    refine VR.blk h [(.iload_n 3, 1)] (by decide +kernel) (pc' := 168) (ls' := [some (.ref am), some (.int (nI (k9))), some (.int (nI (5))), some (.int (nI (tn A1 46 k9))), some (.int (nI (tn A1 47 k9))), some (.int (nI ((tn A1 48 k9) - 1))), some (.int (nI (tn A1 49 k9))), some (.int (nI (tn A1 50 k9))), some (.int (tr A1 51 k9)), some (.int (bI (tb A1 52 k9)))]) (st' := [.int (nI (tn A1 46 k9)), .ref (ad 30)]) rfl rfl (Nat.le_of_ble_eq_true rfl) ?_
    refine VR.bald h (j := 30) (i := tn A1 46 k9) rfl rfl (by show _ < 12; omega) (by decide +kernel) (v := (bI (tb (tkF A1 k9) 30 (tn A1 46 k9)))) (mval_4 rfl) ?_
    refine VR.if_eq h (off := 98) (by decide +kernel) (tgt := 267) (by decide) (fun q => ?_) (fun q => ?_)
    · have q169_112 := (bI_0.mp q)
      clear q
      refine VR.blk h [(.aload_n 0, 1)] (by decide +kernel) (pc' := 268) (ls' := [some (.ref am), some (.int (nI (k9))), some (.int (nI (5))), some (.int (nI (tn A1 46 k9))), some (.int (nI (tn A1 47 k9))), some (.int (nI ((tn A1 48 k9) - 1))), some (.int (nI (tn A1 49 k9))), some (.int (nI (tn A1 50 k9))), some (.int (tr A1 51 k9)), some (.int (bI (tb A1 52 k9)))]) (st' := [.ref am]) rfl rfl (Nat.le_of_ble_eq_true rfl) ?_
      refine VR.getI h (j := 53) rfl (Or.inl wf_RX11_170) (by decide +kernel) (v := tf (tkF A1 k9) 53) rfl ?_
      exact VR.iret h hA hQ hr rfl (congrArg (fun z => some (Value.int (nI (tf z 53)))) (show dlvS A1 k9 5 = tkF A1 k9 from (if_neg (fun z => Bool.noConfusion (z.symm.trans q169_112))))) (show tkF A1 k9 = dlvS A1 k9 5 from (show dlvS A1 k9 5 = tkF A1 k9 from (if_neg (fun z => Bool.noConfusion (z.symm.trans q169_112)))).symm) (by decide +kernel)
    · have q169_112 := (bI_1 (fun z => q (bI_0.mpr z)))
      clear q
      refine VR.blk h [(.aload_n 0, 1), (.iload_n 3, 1), (.iload 5, 2)] (by decide +kernel) (pc' := 176) (ls' := [some (.ref am), some (.int (nI (k9))), some (.int (nI (5))), some (.int (nI (tn A1 46 k9))), some (.int (nI (tn A1 47 k9))), some (.int (nI ((tn A1 48 k9) - 1))), some (.int (nI (tn A1 49 k9))), some (.int (nI (tn A1 50 k9))), some (.int (tr A1 51 k9)), some (.int (bI (tb A1 52 k9)))]) (st' := [.int (nI ((tn A1 48 k9) - 1)), .int (nI (tn A1 46 k9)), .ref am]) rfl rfl (Nat.le_of_ble_eq_true rfl) ?_
      refine VR.call h (np := 2) (st := []) (h5 rfl q169_112) wc_X11_readsSyncNow wn_RX11 (Or.inl wm_RX11_266) wi_X11_readsSyncNow we_X11_readsSyncNow (by decide +kernel) rfl (by decide) (by decide) (by simp [Value.category]) (by decide +kernel) rfl ?_
      refine VR.goto h (off := 88) (tgt := 267) (by decide +kernel) (by decide) ?_
      refine VR.blk h [(.aload_n 0, 1)] (by decide +kernel) (pc' := 268) (ls' := [some (.ref am), some (.int (nI (k9))), some (.int (nI (5))), some (.int (nI (tn A1 46 k9))), some (.int (nI (tn A1 47 k9))), some (.int (nI ((tn A1 48 k9) - 1))), some (.int (nI (tn A1 49 k9))), some (.int (nI (tn A1 50 k9))), some (.int (tr A1 51 k9)), some (.int (bI (tb A1 52 k9)))]) (st' := [.ref am]) rfl rfl (Nat.le_of_ble_eq_true rfl) ?_
      refine VR.getI h (j := 53) rfl (Or.inl wf_RX11_170) (by decide +kernel) (v := tf (snowF (tkF A1 k9) (tn A1 46 k9) ((tn A1 48 k9) - 1)) 53) rfl ?_
      exact VR.iret h hA hQ hr rfl (congrArg (fun z => some (Value.int (nI (tf z 53)))) (show dlvS A1 k9 5 = snowF (tkF A1 k9) (tn A1 46 k9) ((tn A1 48 k9) - 1) from (if_pos q169_112))) (show snowF (tkF A1 k9) (tn A1 46 k9) ((tn A1 48 k9) - 1) = dlvS A1 k9 5 from (show dlvS A1 k9 5 = snowF (tkF A1 k9) (tn A1 46 k9) ((tn A1 48 k9) - 1) from (if_pos q169_112)).symm) (by decide +kernel)
  · skip
    refine VR.tableIn h (dflt := 165) (hi := 9) (offs := #[56, 131, 165, 165, 165, 75, 117, 94, 143, 155]) (len := 56) (x := 6) (off := 117) (by decide) (by decide +kernel) (by decide) rfl (tgt := 205) (by decide) ?_
    refine VR.blk h [(.aload_n 0, 1), (.iload 4, 2), (.iload_n 3, 1), (.iload 6, 2), (.iload 7, 2)] (by decide +kernel) (pc' := 213) (ls' := [some (.ref am), some (.int (nI (k9))), some (.int (nI (6))), some (.int (nI (tn A1 46 k9))), some (.int (nI (tn A1 47 k9))), some (.int (oI (tn A1 48 k9))), some (.int (nI (tn A1 49 k9))), some (.int (nI (tn A1 50 k9))), some (.int (tr A1 51 k9)), some (.int (bI (tb A1 52 k9)))]) (st' := [.int (nI (tn A1 50 k9)), .int (nI (tn A1 49 k9)), .int (nI (tn A1 46 k9)), .int (nI (tn A1 47 k9)), .ref am]) rfl rfl (Nat.le_of_ble_eq_true rfl) ?_
    refine VR.call h (np := 4) (st := []) (h6 rfl) wc_X11_readsSync wn_RX11 (Or.inl wm_RX11_272) wi_X11_readsSync we_X11_readsSync (by decide +kernel) rfl (by decide) (by decide) (by simp [Value.category]) (by decide +kernel) rfl ?_
    refine VR.goto h (off := 51) (tgt := 267) (by decide +kernel) (by decide) ?_
    refine VR.blk h [(.aload_n 0, 1)] (by decide +kernel) (pc' := 268) (ls' := [some (.ref am), some (.int (nI (k9))), some (.int (nI (6))), some (.int (nI (tn A1 46 k9))), some (.int (nI (tn A1 47 k9))), some (.int (oI (tn A1 48 k9))), some (.int (nI (tn A1 49 k9))), some (.int (nI (tn A1 50 k9))), some (.int (tr A1 51 k9)), some (.int (bI (tb A1 52 k9)))]) (st' := [.ref am]) rfl rfl (Nat.le_of_ble_eq_true rfl) ?_
    refine VR.getI h (j := 53) rfl (Or.inl wf_RX11_170) (by decide +kernel) (v := tf (rsynF (tkF A1 k9) (tn A1 47 k9) (tn A1 46 k9) (tn A1 49 k9) (tn A1 50 k9)) 53) rfl ?_
    exact VR.iret h hA hQ hr rfl (congrArg (fun z => some (Value.int (nI (tf z 53)))) (show dlvS A1 k9 6 = rsynF (tkF A1 k9) (tn A1 47 k9) (tn A1 46 k9) (tn A1 49 k9) (tn A1 50 k9) from rfl)) (show rsynF (tkF A1 k9) (tn A1 47 k9) (tn A1 46 k9) (tn A1 49 k9) (tn A1 50 k9) = dlvS A1 k9 6 from (show dlvS A1 k9 6 = rsynF (tkF A1 k9) (tn A1 47 k9) (tn A1 46 k9) (tn A1 49 k9) (tn A1 50 k9) from rfl).symm) (by decide +kernel)
  · skip
    refine VR.tableIn h (dflt := 165) (hi := 9) (offs := #[56, 131, 165, 165, 165, 75, 117, 94, 143, 155]) (len := 56) (x := 7) (off := 94) (by decide) (by decide +kernel) (by decide) rfl (tgt := 182) (by decide) ?_
    refine VR.blk h [(.aload_n 0, 1)] (by decide +kernel) (pc' := 183) (ls' := [some (.ref am), some (.int (nI (k9))), some (.int (nI (7))), some (.int (nI (tn A1 46 k9))), some (.int (nI (tn A1 47 k9))), some (.int (oI (tn A1 48 k9))), some (.int (nI (tn A1 49 k9))), some (.int (nI (tn A1 50 k9))), some (.int (tr A1 51 k9)), some (.int (bI (tb A1 52 k9)))]) (st' := [.ref am]) rfl rfl (Nat.le_of_ble_eq_true rfl) ?_
    refine VR.getA h (j := 30) rfl (Or.inl wf_RX11_81) (by decide +kernel) ?_
    refine VR.blk h [(.iload_n 3, 1)] (by decide +kernel) (pc' := 187) (ls' := [some (.ref am), some (.int (nI (k9))), some (.int (nI (7))), some (.int (nI (tn A1 46 k9))), some (.int (nI (tn A1 47 k9))), some (.int (oI (tn A1 48 k9))), some (.int (nI (tn A1 49 k9))), some (.int (nI (tn A1 50 k9))), some (.int (tr A1 51 k9)), some (.int (bI (tb A1 52 k9)))]) (st' := [.int (nI (tn A1 46 k9)), .ref (ad 30)]) rfl rfl (Nat.le_of_ble_eq_true rfl) ?_
    refine VR.bald h (j := 30) (i := tn A1 46 k9) rfl rfl (by show _ < 12; omega) (by decide +kernel) (v := (bI (tb (tkF A1 k9) 30 (tn A1 46 k9)))) (mval_4 rfl) ?_
    refine VR.if_eq h (off := 79) (by decide +kernel) (tgt := 267) (by decide) (fun q => ?_) (fun q => ?_)
    · have q188_140 := (bI_0.mp q)
      clear q
      refine VR.blk h [(.aload_n 0, 1)] (by decide +kernel) (pc' := 268) (ls' := [some (.ref am), some (.int (nI (k9))), some (.int (nI (7))), some (.int (nI (tn A1 46 k9))), some (.int (nI (tn A1 47 k9))), some (.int (oI (tn A1 48 k9))), some (.int (nI (tn A1 49 k9))), some (.int (nI (tn A1 50 k9))), some (.int (tr A1 51 k9)), some (.int (bI (tb A1 52 k9)))]) (st' := [.ref am]) rfl rfl (Nat.le_of_ble_eq_true rfl) ?_
      refine VR.getI h (j := 53) rfl (Or.inl wf_RX11_170) (by decide +kernel) (v := tf (tkF A1 k9) 53) rfl ?_
      exact VR.iret h hA hQ hr rfl (congrArg (fun z => some (Value.int (nI (tf z 53)))) (show dlvS A1 k9 7 = tkF A1 k9 from (if_neg (fun z => Bool.noConfusion (z.symm.trans q188_140))))) (show tkF A1 k9 = dlvS A1 k9 7 from (show dlvS A1 k9 7 = tkF A1 k9 from (if_neg (fun z => Bool.noConfusion (z.symm.trans q188_140)))).symm) (by decide +kernel)
    · have q188_140 := (bI_1 (fun z => q (bI_0.mpr z)))
      clear q
      refine VR.blk h [(.aload_n 0, 1), (.iload_n 3, 1), (.iload 4, 2), (.iload 6, 2), (.iload 7, 2)] (by decide +kernel) (pc' := 199) (ls' := [some (.ref am), some (.int (nI (k9))), some (.int (nI (7))), some (.int (nI (tn A1 46 k9))), some (.int (nI (tn A1 47 k9))), some (.int (oI (tn A1 48 k9))), some (.int (nI (tn A1 49 k9))), some (.int (nI (tn A1 50 k9))), some (.int (tr A1 51 k9)), some (.int (bI (tb A1 52 k9)))]) (st' := [.int (nI (tn A1 50 k9)), .int (nI (tn A1 49 k9)), .int (nI (tn A1 47 k9)), .int (nI (tn A1 46 k9)), .ref am]) rfl rfl (Nat.le_of_ble_eq_true rfl) ?_
      refine VR.call h (np := 4) (st := []) (h7 rfl q188_140) wc_X11_readsAck wn_RX11 (Or.inl wm_RX11_269) wi_X11_readsAck we_X11_readsAck (by decide +kernel) rfl (by decide) (by decide) (by simp [Value.category]) (by decide +kernel) rfl ?_
      refine VR.goto h (off := 65) (tgt := 267) (by decide +kernel) (by decide) ?_
      refine VR.blk h [(.aload_n 0, 1)] (by decide +kernel) (pc' := 268) (ls' := [some (.ref am), some (.int (nI (k9))), some (.int (nI (7))), some (.int (nI (tn A1 46 k9))), some (.int (nI (tn A1 47 k9))), some (.int (oI (tn A1 48 k9))), some (.int (nI (tn A1 49 k9))), some (.int (nI (tn A1 50 k9))), some (.int (tr A1 51 k9)), some (.int (bI (tb A1 52 k9)))]) (st' := [.ref am]) rfl rfl (Nat.le_of_ble_eq_true rfl) ?_
      refine VR.getI h (j := 53) rfl (Or.inl wf_RX11_170) (by decide +kernel) (v := tf (ackF (tkF A1 k9) (tn A1 46 k9) (tn A1 47 k9) (tn A1 49 k9) (tn A1 50 k9)) 53) rfl ?_
      exact VR.iret h hA hQ hr rfl (congrArg (fun z => some (Value.int (nI (tf z 53)))) (show dlvS A1 k9 7 = ackF (tkF A1 k9) (tn A1 46 k9) (tn A1 47 k9) (tn A1 49 k9) (tn A1 50 k9) from (if_pos q188_140))) (show ackF (tkF A1 k9) (tn A1 46 k9) (tn A1 47 k9) (tn A1 49 k9) (tn A1 50 k9) = dlvS A1 k9 7 from (show dlvS A1 k9 7 = ackF (tkF A1 k9) (tn A1 46 k9) (tn A1 47 k9) (tn A1 49 k9) (tn A1 50 k9) from (if_pos q188_140)).symm) (by decide +kernel)
  · skip
    refine VR.tableIn h (dflt := 165) (hi := 9) (offs := #[56, 131, 165, 165, 165, 75, 117, 94, 143, 155]) (len := 56) (x := 8) (off := 143) (by decide) (by decide +kernel) (by decide) rfl (tgt := 231) (by decide) ?_
    refine VR.blk h [(.aload_n 0, 1), (.iload 4, 2), (.iload_n 3, 1), (.iload 6, 2)] (by decide +kernel) (pc' := 237) (ls' := [some (.ref am), some (.int (nI (k9))), some (.int (nI (8))), some (.int (nI (tn A1 46 k9))), some (.int (nI (tn A1 47 k9))), some (.int (oI (tn A1 48 k9))), some (.int (nI (tn A1 49 k9))), some (.int (nI (tn A1 50 k9))), some (.int (tr A1 51 k9)), some (.int (bI (tb A1 52 k9)))]) (st' := [.int (nI (tn A1 49 k9)), .int (nI (tn A1 46 k9)), .int (nI (tn A1 47 k9)), .ref am]) rfl rfl (Nat.le_of_ble_eq_true rfl) ?_
    refine VR.call h (np := 3) (st := []) (h8 rfl) wc_X11_readsGc wn_RX11 (Or.inl wm_RX11_279) wi_X11_readsGc we_X11_readsGc (by decide +kernel) rfl (by decide) (by decide) (by simp [Value.category]) (by decide +kernel) rfl ?_
    refine VR.goto h (off := 27) (tgt := 267) (by decide +kernel) (by decide) ?_
    refine VR.blk h [(.aload_n 0, 1)] (by decide +kernel) (pc' := 268) (ls' := [some (.ref am), some (.int (nI (k9))), some (.int (nI (8))), some (.int (nI (tn A1 46 k9))), some (.int (nI (tn A1 47 k9))), some (.int (oI (tn A1 48 k9))), some (.int (nI (tn A1 49 k9))), some (.int (nI (tn A1 50 k9))), some (.int (tr A1 51 k9)), some (.int (bI (tb A1 52 k9)))]) (st' := [.ref am]) rfl rfl (Nat.le_of_ble_eq_true rfl) ?_
    refine VR.getI h (j := 53) rfl (Or.inl wf_RX11_170) (by decide +kernel) (v := tf (gcF (tkF A1 k9) (tn A1 47 k9) (tn A1 46 k9) (tn A1 49 k9)) 53) rfl ?_
    exact VR.iret h hA hQ hr rfl (congrArg (fun z => some (Value.int (nI (tf z 53)))) (show dlvS A1 k9 8 = gcF (tkF A1 k9) (tn A1 47 k9) (tn A1 46 k9) (tn A1 49 k9) from rfl)) (show gcF (tkF A1 k9) (tn A1 47 k9) (tn A1 46 k9) (tn A1 49 k9) = dlvS A1 k9 8 from (show dlvS A1 k9 8 = gcF (tkF A1 k9) (tn A1 47 k9) (tn A1 46 k9) (tn A1 49 k9) from rfl).symm) (by decide +kernel)
  · skip
    refine VR.tableIn h (dflt := 165) (hi := 9) (offs := #[56, 131, 165, 165, 165, 75, 117, 94, 143, 155]) (len := 56) (x := 9) (off := 155) (by decide) (by decide +kernel) (by decide) rfl (tgt := 243) (by decide) ?_
    refine VR.blk h [(.aload_n 0, 1), (.iload 4, 2), (.iload_n 3, 1)] (by decide +kernel) (pc' := 247) (ls' := [some (.ref am), some (.int (nI (k9))), some (.int (nI (9))), some (.int (nI (tn A1 46 k9))), some (.int (nI (tn A1 47 k9))), some (.int (oI (tn A1 48 k9))), some (.int (nI (tn A1 49 k9))), some (.int (nI (tn A1 50 k9))), some (.int (tr A1 51 k9)), some (.int (bI (tb A1 52 k9)))]) (st' := [.int (nI (tn A1 46 k9)), .int (nI (tn A1 47 k9)), .ref am]) rfl rfl (Nat.le_of_ble_eq_true rfl) ?_
    refine VR.call h (np := 2) (st := []) (h9 rfl) wc_X11_readsReset wn_RX11 (Or.inl wm_RX11_282) wi_X11_readsReset we_X11_readsReset (by decide +kernel) rfl (by decide) (by decide) (by simp [Value.category]) (by decide +kernel) rfl ?_
    refine VR.goto h (off := 17) (tgt := 267) (by decide +kernel) (by decide) ?_
    refine VR.blk h [(.aload_n 0, 1)] (by decide +kernel) (pc' := 268) (ls' := [some (.ref am), some (.int (nI (k9))), some (.int (nI (9))), some (.int (nI (tn A1 46 k9))), some (.int (nI (tn A1 47 k9))), some (.int (oI (tn A1 48 k9))), some (.int (nI (tn A1 49 k9))), some (.int (nI (tn A1 50 k9))), some (.int (tr A1 51 k9)), some (.int (bI (tb A1 52 k9)))]) (st' := [.ref am]) rfl rfl (Nat.le_of_ble_eq_true rfl) ?_
    refine VR.getI h (j := 53) rfl (Or.inl wf_RX11_170) (by decide +kernel) (v := tf (rstF (tkF A1 k9) (tn A1 47 k9) (tn A1 46 k9)) 53) rfl ?_
    exact VR.iret h hA hQ hr rfl (congrArg (fun z => some (Value.int (nI (tf z 53)))) (show dlvS A1 k9 9 = rstF (tkF A1 k9) (tn A1 47 k9) (tn A1 46 k9) from rfl)) (show rstF (tkF A1 k9) (tn A1 47 k9) (tn A1 46 k9) = dlvS A1 k9 9 from (show dlvS A1 k9 9 = rstF (tkF A1 k9) (tn A1 47 k9) (tn A1 46 k9) from rfl).symm) (by decide +kernel)
