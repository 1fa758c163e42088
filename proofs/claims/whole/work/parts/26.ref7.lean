set_option maxRecDepth 100000 in
set_option maxHeartbeats 4000000 in
theorem r_readsAck {l : Launch} {D : va_G} {tc : Nat → ClassId} {am : Nat} {ad : Nat → Nat} (hls : l.stackTraces = false) (A : TS) (e b n c9 K : Nat) (he : e < 12) (hb : b < 3) (hn : n < K) (hc : c9 ≤ K) (hm : tn A 37 e ≤ 600) (hm6 : tn A 26 e ≤ 600) (hs : tn A 28 e ≤ tn A 26 e) (hlk : lkF (raB A e b n c9) e (tf (raB A e b n c9) 1 - 1) ≤ tn A 26 e + 1) (hf : tf A 1 ≤ 3) (hf0 : 1 ≤ tf A 1) (h22 : ∀ i, tn A 22 i ≤ 600) (h33 : ∀ i, tn A 33 i ≤ 600) (h36 : ∀ i, tn A 36 i < 8) (hwt0 : ∀ k, k < tn A 37 e → tn A 33 (600 * e + k) < 600 ∧ tn A 34 (600 * e + k) ≤ tn A 26 e) (hlo : ∀ k, k < tn A 26 e → tn A 22 (600 * e + k) < 600) (hl : tf A 53 ≤ 250) (hK9 : 7300 ≤ K) (hB : NB K A) (hK : K < 1999980000) : RM l D tc am ad yX11_readsAck cX11_readsAck 9 (none) 3 [.ref am, .int (nI (e)), .int (nI (b)), .int (nI (n)), .int (nI (c9))] A (none) (ackF A e b n c9) := by
  refine RM.of hls (by decide +kernel) (by simp [Value.category]) (Nat.le_of_ble_eq_true rfl) (fun A0 p e9 s m args below meth c S0 sz Q h hr hA hQ => ?_)
  have hf1 := hB.1 1
  refine VR.eqL (ls' := [some (.ref am), some (.int (nI (e))), some (.int (nI (b))), some (.int (nI (n))), some (.int (nI (c9))), none, none, none, none]) rfl ?_
  have st25 : ∀ B1 : TS, B1 = raA A e b n → VR l D tc A0 p e9 (rmd 3 0 0) s m args below meth c 9 Q am ad B1 25 [some (.ref am), some (.int (nI (e))), some (.int (nI (b))), some (.int (nI (n))), some (.int (nI (c9))), none, none, none, none] [] := by
    intro B1 hB1
    have K1 : kR A B1 := by rw [hB1]; exact raA_kR hl
    have N1 : NB (K + 1) B1 := by rw [hB1]; exact raA_NB (hB.mono (by omega)) (by omega)
    have B136 : ∀ i, tn B1 36 i < 8 := fun i => by rw [hB1, raA_36]; exact h36 i
    have B128 : tn B1 28 e = tn A 28 e := by rw [hB1, raA_28]
    have B137 : tn B1 37 e = tn A 37 e := K1.2.2.1 37 e (by decide) (by decide) (by decide) (by decide)
    have st82 : ∀ B2 : TS, B2 = awL B1 e b c9 (tn B1 37 e) → VR l D tc A0 p e9 (rmd 3 0 0) s m args below meth c 9 Q am ad B2 82 [some (.ref am), some (.int (nI (e))), some (.int (nI (b))), some (.int (nI (n))), some (.int (nI (c9))), none, none, none, none] [] := by
      intro B2 hB2
      obtain ⟨G1, N2, G3, G4, G5⟩ := awL_inv (e := e) (c := c9) hb B136 K1 N1 (by omega) (tn B1 37 e)
      rw [← hB2] at G1 N2 G3 G4 G5
      have K2 := G1
      have B228 : tn B2 28 e = tn A 28 e := (G4 28 e (by decide)).trans B128
      have f1 := K2.1 1 (by decide) (by decide)
      have lkb := lkF_le N2 (e := e) (tf B2 1 - 1)
      have l26 : lkF B2 e (tf B2 1 - 1) ≤ tn A 26 e + 1 := by rw [hB2, hB1]; exact hlk
      have st117 : ∀ B3 : TS, B3 = raC B2 e (lkF B2 e (tf B2 1 - 1)) → VR l D tc A0 p e9 (rmd 3 0 0) s m args below meth c 9 Q am ad B3 117 [some (.ref am), some (.int (nI (e))), some (.int (nI (b))), some (.int (nI (n))), some (.int (nI (c9))), some (.int (nI (tn B2 28 e))), some (.int (oI (lkF B2 e (tf B2 1 - 1)))), none, none] [] := by
        intro B3 hB3
        have K3 : kR A B3 := by rw [hB3]; exact K2.sn (Or.inl rfl)
        have hn3 : (if tn B2 28 e + 1 < lkF B2 e (tf B2 1 - 1) then lkF B2 e (tf B2 1 - 1) - 1 else tn B2 28 e) ≤ 600 := by split <;> omega
        have N3 : NB (K + 1) B3 := by rw [hB3]; exact N2.sn (by omega)
        have B328 : tn B3 28 e = (if tn B2 28 e + 1 < lkF B2 e (tf B2 1 - 1) then lkF B2 e (tf B2 1 - 1) - 1 else tn B2 28 e) := by rw [hB3, raC, tn_sn, if_pos ⟨rfl, rfl⟩]
        have b3m : tn B3 28 e ≤ 600 := by rw [B328]; exact hn3
        have b3w : tn B2 28 e ≤ tn B3 28 e := by rw [B328]; split <;> omega
        have b3n : tn B3 28 e ≤ tn A 26 e := by rw [B328]; split <;> omega
        have b322 : ∀ i, tn B3 22 i = tn A 22 i := fun i => K3.2.2.1 22 i (by decide) (by decide) (by decide) (by decide)
        have st188 : ∀ B4 : TS, B4 = raD B3 e (tn B2 28 e) → VR l D tc A0 p e9 (rmd 3 0 0) s m args below meth c 9 Q am ad B4 188 [some (.ref am), some (.int (nI (e))), some (.int (nI (b))), some (.int (nI (n))), some (.int (nI (c9))), some (.int (nI (tn B2 28 e))), some (.int (oI (lkF B2 e (tf B2 1 - 1)))), none, none] [] := by
          intro B4 hB4
          obtain ⟨D1, D53⟩ := aaL_keep (e := e) (s := tn B2 28 e) K3.2.1 (tn B3 28 e - tn B2 28 e)
          have KD : kR A B4 := by rw [hB4]; exact K3.keep D1 D53
          have ND : NB (K + 601) B4 := by rw [hB4]; exact (aaL_NB (s := tn B2 28 e) N3 (by omega) he (fun i => by rw [b322]; exact h22 i) (tn B3 28 e - tn B2 28 e)).1.mono (by omega)
          have d28 : tn B4 28 e = tn B3 28 e := by rw [hB4]; exact D1.2.1 28 e (by decide)
          have d27 := KD.2.2.1 27 e (by decide) (by decide) (by decide) (by decide)
          have nd27 := ND.2 27 e
          have st233 : ∀ B5 : TS, B5 = raE B4 e (lkF B2 e (tf B2 1 - 1)) → VR l D tc A0 p e9 (rmd 3 0 0) s m args below meth c 9 Q am ad B5 233 [some (.ref am), some (.int (nI (e))), some (.int (nI (b))), some (.int (nI (n))), some (.int (nI (c9))), some (.int (nI (tn B2 28 e))), some (.int (oI (lkF B2 e (tf B2 1 - 1)))), none, none] [] := by
            intro B5 hB5
            have K5 : kR A B5 := by rw [hB5]; exact raE_kR KD
            have N5 : NB (K + 604) B5 := by rw [hB5]; exact raE_NB ND (by omega) (by omega) (by have q1 := KD.1 1 (by decide) (by decide); omega)
            have e28 : tn B5 28 e = tn B4 28 e := by rw [hB5, raE_28]
            have e1 := K5.1 1 (by decide) (by decide)
            have st281 : ∀ B6 : TS, B6 = raG B5 e (tn B2 28 e) → VR l D tc A0 p e9 (rmd 3 0 0) s m args below meth c 9 Q am ad B6 281 [some (.ref am), some (.int (nI (e))), some (.int (nI (b))), some (.int (nI (n))), some (.int (nI (c9))), some (.int (nI (tn B2 28 e))), some (.int (oI (lkF B2 e (tf B2 1 - 1)))), none, none] [] := by
              intro B6 hB6
              have K6 : kR A B6 := by rw [hB6]; exact raG_kR K5
              have N6 : NB (K + 607) B6 := by rw [hB6]; exact raG_NB N5 (by omega) (by omega) (by omega)
              have k22 := fun i => K6.2.2.1 22 i (by decide) (by decide) (by decide) (by decide)
              have k26 := fun i => K6.2.2.1 26 i (by decide) (by decide) (by decide) (by decide)
              have k33 := fun i => K6.2.2.1 33 i (by decide) (by decide) (by decide) (by decide)
              have k34 := fun i => K6.2.2.1 34 i (by decide) (by decide) (by decide) (by decide)
              have k37 := fun i => K6.2.2.1 37 i (by decide) (by decide) (by decide) (by decide)
              have k26e := k26 e
              have k37e := k37 e
              have k1 := K6.1 1 (by decide) (by decide)
              refine VR.blk h [(.aload_n 0, 1), (.iload_n 1, 1)] (by decide +kernel) (pc' := 283) (ls' := [some (.ref am), some (.int (nI (e))), some (.int (nI (b))), some (.int (nI (n))), some (.int (nI (c9))), some (.int (nI (tn B2 28 e))), some (.int (oI (lkF B2 e (tf B2 1 - 1)))), none, none]) (st' := [.int (nI (e)), .ref am]) rfl rfl (Nat.le_of_ble_eq_true rfl) ?_
              refine VR.call h (np := 1) (st := []) (r_answersGets hls B6 e (K + 607) he (by omega) (by omega) (by omega) (fun i => by rw [k33]; exact h33 i) (fun k hk => by rw [k33, k34, k26]; exact hwt0 k (Nat.lt_of_lt_of_le hk (Nat.le_of_eq k37e))) (fun k hk => by rw [k22]; exact hlo k (Nat.lt_of_lt_of_le hk (Nat.le_of_eq k26e))) K6.2.1 (by omega) N6 (by omega)) wc_X11_answersGets wn_RX11 (Or.inl wm_RX11_219) wi_X11_answersGets we_X11_answersGets (by decide +kernel) rfl (by decide) (by decide) (by simp [Value.category]) (by decide +kernel) rfl ?_
              exact VR.vret h hA hQ hr rfl (by rw [hB6, hB5, hB4, hB3, hB2, hB1]; rfl) (by decide +kernel)
            refine VR.blk h [(.aload_n 0, 1)] (by decide +kernel) (pc' := 234) (ls' := [some (.ref am), some (.int (nI (e))), some (.int (nI (b))), some (.int (nI (n))), some (.int (nI (c9))), some (.int (nI (tn B2 28 e))), some (.int (oI (lkF B2 e (tf B2 1 - 1)))), none, none]) (st' := [.ref am]) rfl rfl (Nat.le_of_ble_eq_true rfl) ?_
            refine VR.getA h (j := 28) rfl (Or.inl wf_RX11_75) (by decide +kernel) ?_
            refine VR.blk h [(.iload_n 1, 1)] (by decide +kernel) (pc' := 238) (ls' := [some (.ref am), some (.int (nI (e))), some (.int (nI (b))), some (.int (nI (n))), some (.int (nI (c9))), some (.int (nI (tn B2 28 e))), some (.int (oI (lkF B2 e (tf B2 1 - 1)))), none, none]) (st' := [.int (nI (e)), .ref (ad 28)]) rfl rfl (Nat.le_of_ble_eq_true rfl) ?_
            refine VR.iald h (j := 28) (i := e) rfl rfl (by show _ < 12; omega) (by decide +kernel) (v := (nI (tn B5 28 e))) (mval_1 rfl) ?_
            have nb61 := N5.2 28 e
            refine VR.blk h [(.iload 5, 2)] (by decide +kernel) (pc' := 241) (ls' := [some (.ref am), some (.int (nI (e))), some (.int (nI (b))), some (.int (nI (n))), some (.int (nI (c9))), some (.int (nI (tn B2 28 e))), some (.int (oI (lkF B2 e (tf B2 1 - 1)))), none, none]) (st' := [.int (nI (tn B2 28 e)), .int (nI (tn B5 28 e))]) rfl rfl (Nat.le_of_ble_eq_true rfl) ?_
            refine VR.icmp_le h (off := 40) (by decide +kernel) (tgt := 281) (by decide) (fun q => ?_) (fun q => ?_)
            · have q241_63 := ((nI_leI (by omega) (by omega)).mp q)
              clear q
              exact st281 _ (by unfold raG; rw [if_neg (by omega)])
            · have q241_63 : ¬ _ := (fun z => q ((nI_leI (by omega) (by omega)).mpr z))
              clear q
              refine VR.blk h [(.iconst 0, 1), (.istore 7, 2)] (by decide +kernel) (pc' := 247) (ls' := [some (.ref am), some (.int (nI (e))), some (.int (nI (b))), some (.int (nI (n))), some (.int (nI (c9))), some (.int (nI (tn B2 28 e))), some (.int (oI (lkF B2 e (tf B2 1 - 1)))), some (.int (nI (0))), none]) (st' := []) rfl rfl (Nat.le_of_ble_eq_true rfl) ?_
              have loop247 : ∀ (t k : Nat), tf B5 1 - k = t → k ≤ tf B5 1 → VR l D tc A0 p e9 (rmd 3 0 0) s m args below meth c 9 Q am ad (gsL B5 e k) 247 [some (.ref am), some (.int (nI (e))), some (.int (nI (b))), some (.int (nI (n))), some (.int (nI (c9))), some (.int (nI (tn B2 28 e))), some (.int (oI (lkF B2 e (tf B2 1 - 1)))), some (.int (nI (k))), none] [] := by
                intro t; induction t using Nat.strongRecOn with
                | _ t ih247 =>
                  intro k ht247 hk247
                  obtain ⟨G1, G53⟩ := gsL_keep (e := e) K5.2.1 k
                  have hBG := gsL_NB (e := e) N5 (by omega) (by omega) k
                  generalize hG : gsL B5 e k = G at G1 G53 hBG ⊢
                  have g28 := G1.2.1 28 e (by decide)
                  have g1 := G1.1 1 (by decide) (by decide)
                  refine VR.blk h [(.iload 7, 2), (.aload_n 0, 1)] (by decide +kernel) (pc' := 250) (ls' := [some (.ref am), some (.int (nI (e))), some (.int (nI (b))), some (.int (nI (n))), some (.int (nI (c9))), some (.int (nI (tn B2 28 e))), some (.int (oI (lkF B2 e (tf B2 1 - 1)))), some (.int (nI (k))), none]) (st' := [.ref am, .int (nI (k))]) rfl rfl (Nat.le_of_ble_eq_true rfl) ?_
                  refine VR.getI h (j := 1) rfl (Or.inl wf_RX11_151) (by decide +kernel) (v := tf G 1) rfl ?_
                  refine VR.icmp_ge h (off := 28) (by decide +kernel) (tgt := 281) (by decide) (fun q => ?_) (fun q => ?_)
                  · have q253_81 := ((nI_leI (by omega) (by omega)).mp q)
                    clear q
                    refine VR.drop 7 (ls' := [some (.ref am), some (.int (nI (e))), some (.int (nI (b))), some (.int (nI (n))), some (.int (nI (c9))), some (.int (nI (tn B2 28 e))), some (.int (oI (lkF B2 e (tf B2 1 - 1)))), none, none]) rfl ?_
                    exact st281 _ (by obtain rfl : k = tf B5 1 := (by omega); unfold raG; rw [if_pos (by omega), hG])
                  · have q253_81 : ¬ _ := (fun z => q ((nI_leI (by omega) (by omega)).mpr z))
                    clear q
                    refine VR.blk h [(.aload_n 0, 1), (.bipush 8, 2), (.iload_n 1, 1), (.iload 7, 2)] (by decide +kernel) (pc' := 262) (ls' := [some (.ref am), some (.int (nI (e))), some (.int (nI (b))), some (.int (nI (n))), some (.int (nI (c9))), some (.int (nI (tn B2 28 e))), some (.int (oI (lkF B2 e (tf B2 1 - 1)))), some (.int (nI (k))), none]) (st' := [.int (nI (k)), .int (nI (e)), .int (nI (8)), .ref am]) rfl rfl (Nat.le_of_ble_eq_true rfl) ?_
                    refine VR.m1 h (by decide +kernel) (Nat.le_of_ble_eq_true rfl) ?_
                    refine VR.blk h [(.aload_n 0, 1)] (by decide +kernel) (pc' := 264) (ls' := [some (.ref am), some (.int (nI (e))), some (.int (nI (b))), some (.int (nI (n))), some (.int (nI (c9))), some (.int (nI (tn B2 28 e))), some (.int (oI (lkF B2 e (tf B2 1 - 1)))), some (.int (nI (k))), none]) (st' := [.ref am, .int (oI (0)), .int (nI (k)), .int (nI (e)), .int (nI (8)), .ref am]) rfl rfl (Nat.le_of_ble_eq_true rfl) ?_
                    refine VR.getA h (j := 28) rfl (Or.inl wf_RX11_75) (by decide +kernel) ?_
                    refine VR.blk h [(.iload_n 1, 1)] (by decide +kernel) (pc' := 268) (ls' := [some (.ref am), some (.int (nI (e))), some (.int (nI (b))), some (.int (nI (n))), some (.int (nI (c9))), some (.int (nI (tn B2 28 e))), some (.int (oI (lkF B2 e (tf B2 1 - 1)))), some (.int (nI (k))), none]) (st' := [.int (nI (e)), .ref (ad 28), .int (oI (0)), .int (nI (k)), .int (nI (e)), .int (nI (8)), .ref am]) rfl rfl (Nat.le_of_ble_eq_true rfl) ?_
                    refine VR.iald h (j := 28) (i := e) rfl rfl (by show _ < 12; omega) (by decide +kernel) (v := (nI (tn G 28 e))) (mval_1 rfl) ?_
                    have nb94 := hBG.2 28 e
                    refine VR.blk h [(.iconst 0, 1), (.iconst 0, 1), (.iconst 0, 1)] (by decide +kernel) (pc' := 272) (ls' := [some (.ref am), some (.int (nI (e))), some (.int (nI (b))), some (.int (nI (n))), some (.int (nI (c9))), some (.int (nI (tn B2 28 e))), some (.int (oI (lkF B2 e (tf B2 1 - 1)))), some (.int (nI (k))), none]) (st' := [.int (nI (0)), .int (nI (0)), .int (nI (0)), .int (nI (tn G 28 e)), .int (oI (0)), .int (nI (k)), .int (nI (e)), .int (nI (8)), .ref am]) rfl rfl (Nat.le_of_ble_eq_true rfl) ?_
                    refine VR.call h (np := 8) (st := []) (r_send hls G 8 e k 0 (tn G 28 e) 0 (nI 0) false (K + 604 + k) (by omega) (by omega) (by omega) (by omega) (by omega) (by omega) G53 hBG (by omega)) wc_X11_send wn_RX11 (Or.inl wm_RX11_176) wi_X11_send we_X11_send (by decide +kernel) rfl (by decide) (by decide) (by simp [Value.category]) (by decide +kernel) (by simp [oI_s, bI_f, bI_t]) ?_
                    refine VR.incN h (x := k) (i := 7) (by decide +kernel) rfl (Nat.le_of_ble_eq_true rfl) ?_
                    refine VR.eqL (ls' := [some (.ref am), some (.int (nI (e))), some (.int (nI (b))), some (.int (nI (n))), some (.int (nI (c9))), some (.int (nI (tn B2 28 e))), some (.int (oI (lkF B2 e (tf B2 1 - 1)))), some (.int (nI (k + 1))), none]) rfl ?_
                    refine VR.goto h (off := -31) (tgt := 247) (by decide +kernel) (by decide) ?_
                    refine VR.eqA (A' := (gsL B5 e ((k + 1)))) (by rw [gsL, hG]) ?_
                    refine VR.eqL (ls' := [some (.ref am), some (.int (nI (e))), some (.int (nI (b))), some (.int (nI (n))), some (.int (nI (c9))), some (.int (nI (tn B2 28 e))), some (.int (oI (lkF B2 e (tf B2 1 - 1)))), some (.int (nI ((k + 1)))), none]) rfl ?_
                    exact ih247 (tf B5 1 - (k + 1)) (by omega) (k + 1) rfl (by omega)
              refine VR.eqA (A' := (gsL B5 e 0)) rfl ?_
              refine VR.eqL (ls' := [some (.ref am), some (.int (nI (e))), some (.int (nI (b))), some (.int (nI (n))), some (.int (nI (c9))), some (.int (nI (tn B2 28 e))), some (.int (oI (lkF B2 e (tf B2 1 - 1)))), some (.int (nI (0))), none]) rfl ?_
              exact loop247 _ 0 rfl (Nat.zero_le _)
          refine VR.blk h [(.aload_n 0, 1)] (by decide +kernel) (pc' := 189) (ls' := [some (.ref am), some (.int (nI (e))), some (.int (nI (b))), some (.int (nI (n))), some (.int (nI (c9))), some (.int (nI (tn B2 28 e))), some (.int (oI (lkF B2 e (tf B2 1 - 1)))), none, none]) (st' := [.ref am]) rfl rfl (Nat.le_of_ble_eq_true rfl) ?_
          refine VR.getA h (j := 31) rfl (Or.inl wf_RX11_84) (by decide +kernel) ?_
          refine VR.blk h [(.iload_n 1, 1)] (by decide +kernel) (pc' := 193) (ls' := [some (.ref am), some (.int (nI (e))), some (.int (nI (b))), some (.int (nI (n))), some (.int (nI (c9))), some (.int (nI (tn B2 28 e))), some (.int (oI (lkF B2 e (tf B2 1 - 1)))), none, none]) (st' := [.int (nI (e)), .ref (ad 31)]) rfl rfl (Nat.le_of_ble_eq_true rfl) ?_
          refine VR.bald h (j := 31) (i := e) rfl rfl (by show _ < 12; omega) (by decide +kernel) (v := (bI (tb B4 31 e))) (mval_4 rfl) ?_
          refine VR.if_ne h (off := 39) (by decide +kernel) (tgt := 233) (by decide) (fun q => ?_) (fun q => ?_)
          · have q194_110 := (bI_1 (fun z => q (bI_0.mpr z)))
            clear q
            exact st233 _ (by unfold raE; rw [if_neg (fun z => Bool.noConfusion (z.1.symm.trans q194_110))])
          · have q194_110 := (bI_0.mp q)
            clear q
            refine VR.blk h [(.iload 6, 2)] (by decide +kernel) (pc' := 199) (ls' := [some (.ref am), some (.int (nI (e))), some (.int (nI (b))), some (.int (nI (n))), some (.int (nI (c9))), some (.int (nI (tn B2 28 e))), some (.int (oI (lkF B2 e (tf B2 1 - 1)))), none, none]) (st' := [.int (oI (lkF B2 e (tf B2 1 - 1)))]) rfl rfl (Nat.le_of_ble_eq_true rfl) ?_
            refine VR.if_lt h (off := 34) (by decide +kernel) (tgt := 233) (by decide) (fun q => ?_) (fun q => ?_)
            · have q199_117 := ((oI_neg (by omega)).mp q)
              clear q
              exact st233 _ (by unfold raE; rw [if_neg (fun z => z.2.1 q199_117)])
            · have q199_117 : ¬ _ := (fun z => q ((oI_neg (by omega)).mpr z))
              clear q
              refine VR.blk h [(.aload_n 0, 1)] (by decide +kernel) (pc' := 203) (ls' := [some (.ref am), some (.int (nI (e))), some (.int (nI (b))), some (.int (nI (n))), some (.int (nI (c9))), some (.int (nI (tn B2 28 e))), some (.int (oI (lkF B2 e (tf B2 1 - 1)))), none, none]) (st' := [.ref am]) rfl rfl (Nat.le_of_ble_eq_true rfl) ?_
              refine VR.getA h (j := 28) rfl (Or.inl wf_RX11_75) (by decide +kernel) ?_
              refine VR.blk h [(.iload_n 1, 1)] (by decide +kernel) (pc' := 207) (ls' := [some (.ref am), some (.int (nI (e))), some (.int (nI (b))), some (.int (nI (n))), some (.int (nI (c9))), some (.int (nI (tn B2 28 e))), some (.int (oI (lkF B2 e (tf B2 1 - 1)))), none, none]) (st' := [.int (nI (e)), .ref (ad 28)]) rfl rfl (Nat.le_of_ble_eq_true rfl) ?_
              refine VR.iald h (j := 28) (i := e) rfl rfl (by show _ < 12; omega) (by decide +kernel) (v := (nI (tn B4 28 e))) (mval_1 rfl) ?_
              have nb127 := ND.2 28 e
              refine VR.blk h [(.aload_n 0, 1)] (by decide +kernel) (pc' := 209) (ls' := [some (.ref am), some (.int (nI (e))), some (.int (nI (b))), some (.int (nI (n))), some (.int (nI (c9))), some (.int (nI (tn B2 28 e))), some (.int (oI (lkF B2 e (tf B2 1 - 1)))), none, none]) (st' := [.ref am, .int (nI (tn B4 28 e))]) rfl rfl (Nat.le_of_ble_eq_true rfl) ?_
              refine VR.getA h (j := 27) rfl (Or.inl wf_RX11_72) (by decide +kernel) ?_
              refine VR.blk h [(.iload_n 1, 1)] (by decide +kernel) (pc' := 213) (ls' := [some (.ref am), some (.int (nI (e))), some (.int (nI (b))), some (.int (nI (n))), some (.int (nI (c9))), some (.int (nI (tn B2 28 e))), some (.int (oI (lkF B2 e (tf B2 1 - 1)))), none, none]) (st' := [.int (nI (e)), .ref (ad 27), .int (nI (tn B4 28 e))]) rfl rfl (Nat.le_of_ble_eq_true rfl) ?_
              refine VR.iald h (j := 27) (i := e) rfl rfl (by show _ < 12; omega) (by decide +kernel) (v := (nI (tn B4 27 e))) (mval_1 rfl) ?_
              have nb132 := ND.2 27 e
              refine VR.icmp_lt h (off := 19) (by decide +kernel) (tgt := 233) (by decide) (fun q => ?_) (fun q => ?_)
              · have q214_133 := ((nI_ltI (by omega) (by omega)).mp q)
                clear q
                exact st233 _ (by unfold raE; rw [if_neg (fun z => absurd z.2.2 (by omega))])
              · have q214_133 : ¬ _ := (fun z => q ((nI_ltI (by omega) (by omega)).mpr z))
                clear q
                refine VR.blk h [(.aload_n 0, 1)] (by decide +kernel) (pc' := 218) (ls' := [some (.ref am), some (.int (nI (e))), some (.int (nI (b))), some (.int (nI (n))), some (.int (nI (c9))), some (.int (nI (tn B2 28 e))), some (.int (oI (lkF B2 e (tf B2 1 - 1)))), none, none]) (st' := [.ref am]) rfl rfl (Nat.le_of_ble_eq_true rfl) ?_
                refine VR.getA h (j := 31) rfl (Or.inl wf_RX11_84) (by decide +kernel) ?_
                refine VR.blk h [(.iload_n 1, 1), (.iconst 1, 1)] (by decide +kernel) (pc' := 223) (ls' := [some (.ref am), some (.int (nI (e))), some (.int (nI (b))), some (.int (nI (n))), some (.int (nI (c9))), some (.int (nI (tn B2 28 e))), some (.int (oI (lkF B2 e (tf B2 1 - 1)))), none, none]) (st' := [.int (nI (1)), .int (nI (e)), .ref (ad 31)]) rfl rfl (Nat.le_of_ble_eq_true rfl) ?_
                refine VR.bast h (j := 31) (i := e) (v := true) rfl rfl (by show _ < 12; omega) (by decide +kernel) ?_
                refine VR.blk h [(.iload_n 1, 1)] (by decide +kernel) (pc' := 225) (ls' := [some (.ref am), some (.int (nI (e))), some (.int (nI (b))), some (.int (nI (n))), some (.int (nI (c9))), some (.int (nI (tn B2 28 e))), some (.int (oI (lkF B2 e (tf B2 1 - 1)))), none, none]) (st' := [.int (nI (e))]) rfl rfl (Nat.le_of_ble_eq_true rfl) ?_
                refine VR.if_le h (off := 8) (by decide +kernel) (tgt := 233) (by decide) (fun q => ?_) (fun q => ?_)
                · have q225_144 := ((nI_z_le (by omega)).mp q)
                  clear q
                  exact st233 _ (by unfold raE; rw [if_pos ⟨q194_110, q199_117, (by omega)⟩, if_neg (by omega)])
                · have q225_144 : ¬ _ := (fun z => q ((nI_z_le (by omega)).mpr z))
                  clear q
                  refine VR.blk h [(.aload_n 0, 1), (.iload_n 1, 1)] (by decide +kernel) (pc' := 230) (ls' := [some (.ref am), some (.int (nI (e))), some (.int (nI (b))), some (.int (nI (n))), some (.int (nI (c9))), some (.int (nI (tn B2 28 e))), some (.int (oI (lkF B2 e (tf B2 1 - 1)))), none, none]) (st' := [.int (nI (e)), .ref am]) rfl rfl (Nat.le_of_ble_eq_true rfl) ?_
                  refine VR.call h (np := 1) (st := []) (r_resets hls (sb B4 31 e true) e (K + 601) he (by have q1 := KD.1 1 (by decide) (by decide); show tf B4 1 ≤ 3; omega) KD.2.1 (by omega) ND (by omega)) wc_X11_resets wn_RX11 (Or.inl wm_RX11_216) wi_X11_resets we_X11_resets (by decide +kernel) rfl (by decide) (by decide) (by simp [Value.category]) (by decide +kernel) rfl ?_
                  exact st233 _ (by unfold raE; rw [if_pos ⟨q194_110, q199_117, (by omega)⟩, if_pos (by omega)])
        refine VR.blk h [(.iload 5, 2), (.istore 7, 2)] (by decide +kernel) (pc' := 121) (ls' := [some (.ref am), some (.int (nI (e))), some (.int (nI (b))), some (.int (nI (n))), some (.int (nI (c9))), some (.int (nI (tn B2 28 e))), some (.int (oI (lkF B2 e (tf B2 1 - 1)))), some (.int (nI (tn B2 28 e))), none]) (st' := []) rfl rfl (Nat.le_of_ble_eq_true rfl) ?_
        have loop121 : ∀ (t j : Nat), (tn B3 28 e - tn B2 28 e) - j = t → j ≤ (tn B3 28 e - tn B2 28 e) → VR l D tc A0 p e9 (rmd 3 0 0) s m args below meth c 9 Q am ad (aaL B3 e (tn B2 28 e) j) 121 [some (.ref am), some (.int (nI (e))), some (.int (nI (b))), some (.int (nI (n))), some (.int (nI (c9))), some (.int (nI (tn B2 28 e))), some (.int (oI (lkF B2 e (tf B2 1 - 1)))), some (.int (nI (tn B2 28 e + j))), none] [] := by
          intro t; induction t using Nat.strongRecOn with
          | _ t ih121 =>
            intro j ht121 hk121
            obtain ⟨G1, G53⟩ := aaL_keep (e := e) (s := tn B2 28 e) K3.2.1 j
            obtain ⟨hBG, G22⟩ := aaL_NB (s := tn B2 28 e) N3 (by omega) he (fun i => by rw [b322]; exact h22 i) j
            generalize hG : aaL B3 e (tn B2 28 e) j = G at G1 G53 hBG G22 ⊢
            have g28 := G1.2.1 28 e (by decide)
            have g22 := (G1.2.1 22 (600 * e + (tn B2 28 e + j)) (by decide)).trans (b322 _)
            refine VR.blk h [(.iload 7, 2), (.aload_n 0, 1)] (by decide +kernel) (pc' := 124) (ls' := [some (.ref am), some (.int (nI (e))), some (.int (nI (b))), some (.int (nI (n))), some (.int (nI (c9))), some (.int (nI (tn B2 28 e))), some (.int (oI (lkF B2 e (tf B2 1 - 1)))), some (.int (nI (tn B2 28 e + j))), none]) (st' := [.ref am, .int (nI (tn B2 28 e + j))]) rfl rfl (Nat.le_of_ble_eq_true rfl) ?_
            refine VR.getA h (j := 28) rfl (Or.inl wf_RX11_75) (by decide +kernel) ?_
            refine VR.blk h [(.iload_n 1, 1)] (by decide +kernel) (pc' := 128) (ls' := [some (.ref am), some (.int (nI (e))), some (.int (nI (b))), some (.int (nI (n))), some (.int (nI (c9))), some (.int (nI (tn B2 28 e))), some (.int (oI (lkF B2 e (tf B2 1 - 1)))), some (.int (nI (tn B2 28 e + j))), none]) (st' := [.int (nI (e)), .ref (ad 28), .int (nI (tn B2 28 e + j))]) rfl rfl (Nat.le_of_ble_eq_true rfl) ?_
            refine VR.iald h (j := 28) (i := e) rfl rfl (by show _ < 12; omega) (by decide +kernel) (v := (nI (tn G 28 e))) (mval_1 rfl) ?_
            have nb167 := hBG.2 28 e
            refine VR.icmp_ge h (off := 59) (by decide +kernel) (tgt := 188) (by decide) (fun q => ?_) (fun q => ?_)
            · have q129_168 := ((nI_leI (by omega) (by omega)).mp q)
              clear q
              refine VR.drop 7 (ls' := [some (.ref am), some (.int (nI (e))), some (.int (nI (b))), some (.int (nI (n))), some (.int (nI (c9))), some (.int (nI (tn B2 28 e))), some (.int (oI (lkF B2 e (tf B2 1 - 1)))), none, none]) rfl ?_
              exact st188 _ (by obtain rfl : j = tn B3 28 e - tn B2 28 e := (by omega); exact hG.symm)
            · have q129_168 : ¬ _ := (fun z => q ((nI_leI (by omega) (by omega)).mpr z))
              clear q
              refine VR.blk h [(.sipush 600, 3), (.iload_n 1, 1)] (by decide +kernel) (pc' := 136) (ls' := [some (.ref am), some (.int (nI (e))), some (.int (nI (b))), some (.int (nI (n))), some (.int (nI (c9))), some (.int (nI (tn B2 28 e))), some (.int (oI (lkF B2 e (tf B2 1 - 1)))), some (.int (nI (tn B2 28 e + j))), none]) (st' := [.int (nI (e)), .int (nI (600))]) rfl rfl (Nat.le_of_ble_eq_true rfl) ?_
              refine VR.mulN h (by decide +kernel) (Nat.le_of_ble_eq_true rfl) ?_
              refine VR.blk h [(.iload 7, 2)] (by decide +kernel) (pc' := 139) (ls' := [some (.ref am), some (.int (nI (e))), some (.int (nI (b))), some (.int (nI (n))), some (.int (nI (c9))), some (.int (nI (tn B2 28 e))), some (.int (oI (lkF B2 e (tf B2 1 - 1)))), some (.int (nI (tn B2 28 e + j))), none]) (st' := [.int (nI (tn B2 28 e + j)), .int (nI (600 * e))]) rfl rfl (Nat.le_of_ble_eq_true rfl) ?_
              refine VR.addN h (by decide +kernel) (Nat.le_of_ble_eq_true rfl) ?_
              refine VR.blk h [(.istore 8, 2), (.aload_n 0, 1)] (by decide +kernel) (pc' := 143) (ls' := [some (.ref am), some (.int (nI (e))), some (.int (nI (b))), some (.int (nI (n))), some (.int (nI (c9))), some (.int (nI (tn B2 28 e))), some (.int (oI (lkF B2 e (tf B2 1 - 1)))), some (.int (nI (tn B2 28 e + j))), some (.int (nI ((600 * e) + (tn B2 28 e + j))))]) (st' := [.ref am]) rfl rfl (Nat.le_of_ble_eq_true rfl) ?_
              refine VR.getA h (j := 24) rfl (Or.inl wf_RX11_63) (by decide +kernel) ?_
              refine VR.blk h [(.iload 8, 2)] (by decide +kernel) (pc' := 148) (ls' := [some (.ref am), some (.int (nI (e))), some (.int (nI (b))), some (.int (nI (n))), some (.int (nI (c9))), some (.int (nI (tn B2 28 e))), some (.int (oI (lkF B2 e (tf B2 1 - 1)))), some (.int (nI (tn B2 28 e + j))), some (.int (nI ((600 * e) + (tn B2 28 e + j))))]) (st' := [.int (nI ((600 * e) + (tn B2 28 e + j))), .ref (ad 24)]) rfl rfl (Nat.le_of_ble_eq_true rfl) ?_
              refine VR.bald h (j := 24) (i := (600 * e) + (tn B2 28 e + j)) rfl rfl (by show _ < 7200; omega) (by decide +kernel) (v := (bI (tb G 24 ((600 * e) + (tn B2 28 e + j))))) (mval_4 rfl) ?_
              refine VR.if_ne h (off := 13) (by decide +kernel) (tgt := 162) (by decide) (fun q => ?_) (fun q => ?_)
              · have q149_183 := (bI_1 (fun z => q (bI_0.mpr z)))
                clear q
                refine VR.blk h [(.aload_n 0, 1), (.iload_n 1, 1), (.aload_n 0, 1)] (by decide +kernel) (pc' := 165) (ls' := [some (.ref am), some (.int (nI (e))), some (.int (nI (b))), some (.int (nI (n))), some (.int (nI (c9))), some (.int (nI (tn B2 28 e))), some (.int (oI (lkF B2 e (tf B2 1 - 1)))), some (.int (nI (tn B2 28 e + j))), some (.int (nI ((600 * e) + (tn B2 28 e + j))))]) (st' := [.ref am, .int (nI (e)), .ref am]) rfl rfl (Nat.le_of_ble_eq_true rfl) ?_
                refine VR.getA h (j := 22) rfl (Or.inl wf_RX11_57) (by decide +kernel) ?_
                refine VR.blk h [(.iload 8, 2)] (by decide +kernel) (pc' := 170) (ls' := [some (.ref am), some (.int (nI (e))), some (.int (nI (b))), some (.int (nI (n))), some (.int (nI (c9))), some (.int (nI (tn B2 28 e))), some (.int (oI (lkF B2 e (tf B2 1 - 1)))), some (.int (nI (tn B2 28 e + j))), some (.int (nI ((600 * e) + (tn B2 28 e + j))))]) (st' := [.int (nI ((600 * e) + (tn B2 28 e + j))), .ref (ad 22), .int (nI (e)), .ref am]) rfl rfl (Nat.le_of_ble_eq_true rfl) ?_
                have hop := hlo (tn B2 28 e + j) (by omega)
                refine VR.iald h (j := 22) (i := (600 * e) + (tn B2 28 e + j)) rfl rfl (by show _ < 7200; omega) (by decide +kernel) (v := (nI (tn G 22 ((600 * e) + (tn B2 28 e + j))))) (mval_1 rfl) ?_
                have nb191 := hBG.2 22 ((600 * e) + (tn B2 28 e + j))
                refine VR.blk h [(.aload_n 0, 1)] (by decide +kernel) (pc' := 172) (ls' := [some (.ref am), some (.int (nI (e))), some (.int (nI (b))), some (.int (nI (n))), some (.int (nI (c9))), some (.int (nI (tn B2 28 e))), some (.int (oI (lkF B2 e (tf B2 1 - 1)))), some (.int (nI (tn B2 28 e + j))), some (.int (nI ((600 * e) + (tn B2 28 e + j))))]) (st' := [.ref am, .int (nI (tn G 22 ((600 * e) + (tn B2 28 e + j)))), .int (nI (e)), .ref am]) rfl rfl (Nat.le_of_ble_eq_true rfl) ?_
                refine VR.getA h (j := 23) rfl (Or.inl wf_RX11_60) (by decide +kernel) ?_
                refine VR.blk h [(.iload 8, 2)] (by decide +kernel) (pc' := 177) (ls' := [some (.ref am), some (.int (nI (e))), some (.int (nI (b))), some (.int (nI (n))), some (.int (nI (c9))), some (.int (nI (tn B2 28 e))), some (.int (oI (lkF B2 e (tf B2 1 - 1)))), some (.int (nI (tn B2 28 e + j))), some (.int (nI ((600 * e) + (tn B2 28 e + j))))]) (st' := [.int (nI ((600 * e) + (tn B2 28 e + j))), .ref (ad 23), .int (nI (tn G 22 ((600 * e) + (tn B2 28 e + j)))), .int (nI (e)), .ref am]) rfl rfl (Nat.le_of_ble_eq_true rfl) ?_
                refine VR.iald h (j := 23) (i := (600 * e) + (tn B2 28 e + j)) rfl rfl (by show _ < 7200; omega) (by decide +kernel) (v := (tr G 23 ((600 * e) + (tn B2 28 e + j)))) (mval_3 rfl) ?_
                refine VR.blk h [(.iconst 1, 1)] (by decide +kernel) (pc' := 179) (ls' := [some (.ref am), some (.int (nI (e))), some (.int (nI (b))), some (.int (nI (n))), some (.int (nI (c9))), some (.int (nI (tn B2 28 e))), some (.int (oI (lkF B2 e (tf B2 1 - 1)))), some (.int (nI (tn B2 28 e + j))), some (.int (nI ((600 * e) + (tn B2 28 e + j))))]) (st' := [.int (nI (1)), .int (tr G 23 ((600 * e) + (tn B2 28 e + j))), .int (nI (tn G 22 ((600 * e) + (tn B2 28 e + j)))), .int (nI (e)), .ref am]) rfl rfl (Nat.le_of_ble_eq_true rfl) ?_
                refine VR.call h (np := 4) (st := []) (r_answers hls G e (tn G 22 ((600 * e) + (tn B2 28 e + j))) (tr G 23 ((600 * e) + (tn B2 28 e + j))) true (K + 1 + j) (by omega) (by omega) (by omega) G53 (by omega) hBG (by omega)) wc_X11_answers wn_RX11 (Or.inl wm_RX11_187) wi_X11_answers we_X11_answers (by decide +kernel) rfl (by decide) (by decide) (by simp [Value.category]) (by decide +kernel) (by simp [oI_s, bI_f, bI_t]) ?_
                refine VR.incN h (x := tn B2 28 e + j) (i := 7) (by decide +kernel) rfl (Nat.le_of_ble_eq_true rfl) ?_
                refine VR.eqL (ls' := [some (.ref am), some (.int (nI (e))), some (.int (nI (b))), some (.int (nI (n))), some (.int (nI (c9))), some (.int (nI (tn B2 28 e))), some (.int (oI (lkF B2 e (tf B2 1 - 1)))), some (.int (nI ((tn B2 28 e + j) + 1))), some (.int (nI ((600 * e) + (tn B2 28 e + j))))]) rfl ?_
                refine VR.goto h (off := -64) (tgt := 121) (by decide +kernel) (by decide) ?_
                refine VR.eqA (A' := (aaL B3 e (tn B2 28 e) ((j + 1)))) (by rw [aaL, hG]; unfold aaS; rw [if_pos (Or.inl q149_183)]) ?_
                refine VR.drop 8 (ls' := [some (.ref am), some (.int (nI (e))), some (.int (nI (b))), some (.int (nI (n))), some (.int (nI (c9))), some (.int (nI (tn B2 28 e))), some (.int (oI (lkF B2 e (tf B2 1 - 1)))), some (.int (nI ((tn B2 28 e + j) + 1))), none]) rfl ?_
                refine VR.eqL (ls' := [some (.ref am), some (.int (nI (e))), some (.int (nI (b))), some (.int (nI (n))), some (.int (nI (c9))), some (.int (nI (tn B2 28 e))), some (.int (oI (lkF B2 e (tf B2 1 - 1)))), some (.int (nI (tn B2 28 e + ((j + 1))))), none]) rfl ?_
                exact ih121 ((tn B3 28 e - tn B2 28 e) - (j + 1)) (by omega) (j + 1) rfl (by omega)
              · have q149_183 := (bI_0.mp q)
                clear q
                refine VR.blk h [(.aload_n 0, 1)] (by decide +kernel) (pc' := 153) (ls' := [some (.ref am), some (.int (nI (e))), some (.int (nI (b))), some (.int (nI (n))), some (.int (nI (c9))), some (.int (nI (tn B2 28 e))), some (.int (oI (lkF B2 e (tf B2 1 - 1)))), some (.int (nI (tn B2 28 e + j))), some (.int (nI ((600 * e) + (tn B2 28 e + j))))]) (st' := [.ref am]) rfl rfl (Nat.le_of_ble_eq_true rfl) ?_
                refine VR.getA h (j := 25) rfl (Or.inl wf_RX11_66) (by decide +kernel) ?_
                refine VR.blk h [(.iload 8, 2)] (by decide +kernel) (pc' := 158) (ls' := [some (.ref am), some (.int (nI (e))), some (.int (nI (b))), some (.int (nI (n))), some (.int (nI (c9))), some (.int (nI (tn B2 28 e))), some (.int (oI (lkF B2 e (tf B2 1 - 1)))), some (.int (nI (tn B2 28 e + j))), some (.int (nI ((600 * e) + (tn B2 28 e + j))))]) (st' := [.int (nI ((600 * e) + (tn B2 28 e + j))), .ref (ad 25)]) rfl rfl (Nat.le_of_ble_eq_true rfl) ?_
                refine VR.bald h (j := 25) (i := (600 * e) + (tn B2 28 e + j)) rfl rfl (by show _ < 7200; omega) (by decide +kernel) (v := (bI (tb G 25 ((600 * e) + (tn B2 28 e + j))))) (mval_4 rfl) ?_
                refine VR.if_eq h (off := 23) (by decide +kernel) (tgt := 182) (by decide) (fun q => ?_) (fun q => ?_)
                · have q159_211 := (bI_0.mp q)
                  clear q
                  refine VR.incN h (x := tn B2 28 e + j) (i := 7) (by decide +kernel) rfl (Nat.le_of_ble_eq_true rfl) ?_
                  refine VR.eqL (ls' := [some (.ref am), some (.int (nI (e))), some (.int (nI (b))), some (.int (nI (n))), some (.int (nI (c9))), some (.int (nI (tn B2 28 e))), some (.int (oI (lkF B2 e (tf B2 1 - 1)))), some (.int (nI ((tn B2 28 e + j) + 1))), some (.int (nI ((600 * e) + (tn B2 28 e + j))))]) rfl ?_
                  refine VR.goto h (off := -64) (tgt := 121) (by decide +kernel) (by decide) ?_
                  refine VR.eqA (A' := (aaL B3 e (tn B2 28 e) ((j + 1)))) (by rw [aaL, hG]; unfold aaS; rw [if_neg (fun z => z.elim (fun a => Bool.noConfusion (a.symm.trans q149_183)) (fun a => Bool.noConfusion (a.symm.trans q159_211)))]) ?_
                  refine VR.drop 8 (ls' := [some (.ref am), some (.int (nI (e))), some (.int (nI (b))), some (.int (nI (n))), some (.int (nI (c9))), some (.int (nI (tn B2 28 e))), some (.int (oI (lkF B2 e (tf B2 1 - 1)))), some (.int (nI ((tn B2 28 e + j) + 1))), none]) rfl ?_
                  refine VR.eqL (ls' := [some (.ref am), some (.int (nI (e))), some (.int (nI (b))), some (.int (nI (n))), some (.int (nI (c9))), some (.int (nI (tn B2 28 e))), some (.int (oI (lkF B2 e (tf B2 1 - 1)))), some (.int (nI (tn B2 28 e + ((j + 1))))), none]) rfl ?_
                  exact ih121 ((tn B3 28 e - tn B2 28 e) - (j + 1)) (by omega) (j + 1) rfl (by omega)
                · have q159_211 := (bI_1 (fun z => q (bI_0.mpr z)))
                  clear q
                  refine VR.blk h [(.aload_n 0, 1), (.iload_n 1, 1), (.aload_n 0, 1)] (by decide +kernel) (pc' := 165) (ls' := [some (.ref am), some (.int (nI (e))), some (.int (nI (b))), some (.int (nI (n))), some (.int (nI (c9))), some (.int (nI (tn B2 28 e))), some (.int (oI (lkF B2 e (tf B2 1 - 1)))), some (.int (nI (tn B2 28 e + j))), some (.int (nI ((600 * e) + (tn B2 28 e + j))))]) (st' := [.ref am, .int (nI (e)), .ref am]) rfl rfl (Nat.le_of_ble_eq_true rfl) ?_
                  refine VR.getA h (j := 22) rfl (Or.inl wf_RX11_57) (by decide +kernel) ?_
                  refine VR.blk h [(.iload 8, 2)] (by decide +kernel) (pc' := 170) (ls' := [some (.ref am), some (.int (nI (e))), some (.int (nI (b))), some (.int (nI (n))), some (.int (nI (c9))), some (.int (nI (tn B2 28 e))), some (.int (oI (lkF B2 e (tf B2 1 - 1)))), some (.int (nI (tn B2 28 e + j))), some (.int (nI ((600 * e) + (tn B2 28 e + j))))]) (st' := [.int (nI ((600 * e) + (tn B2 28 e + j))), .ref (ad 22), .int (nI (e)), .ref am]) rfl rfl (Nat.le_of_ble_eq_true rfl) ?_
                  have hop := hlo (tn B2 28 e + j) (by omega)
                  refine VR.iald h (j := 22) (i := (600 * e) + (tn B2 28 e + j)) rfl rfl (by show _ < 7200; omega) (by decide +kernel) (v := (nI (tn G 22 ((600 * e) + (tn B2 28 e + j))))) (mval_1 rfl) ?_
                  have nb228 := hBG.2 22 ((600 * e) + (tn B2 28 e + j))
                  refine VR.blk h [(.aload_n 0, 1)] (by decide +kernel) (pc' := 172) (ls' := [some (.ref am), some (.int (nI (e))), some (.int (nI (b))), some (.int (nI (n))), some (.int (nI (c9))), some (.int (nI (tn B2 28 e))), some (.int (oI (lkF B2 e (tf B2 1 - 1)))), some (.int (nI (tn B2 28 e + j))), some (.int (nI ((600 * e) + (tn B2 28 e + j))))]) (st' := [.ref am, .int (nI (tn G 22 ((600 * e) + (tn B2 28 e + j)))), .int (nI (e)), .ref am]) rfl rfl (Nat.le_of_ble_eq_true rfl) ?_
                  refine VR.getA h (j := 23) rfl (Or.inl wf_RX11_60) (by decide +kernel) ?_
                  refine VR.blk h [(.iload 8, 2)] (by decide +kernel) (pc' := 177) (ls' := [some (.ref am), some (.int (nI (e))), some (.int (nI (b))), some (.int (nI (n))), some (.int (nI (c9))), some (.int (nI (tn B2 28 e))), some (.int (oI (lkF B2 e (tf B2 1 - 1)))), some (.int (nI (tn B2 28 e + j))), some (.int (nI ((600 * e) + (tn B2 28 e + j))))]) (st' := [.int (nI ((600 * e) + (tn B2 28 e + j))), .ref (ad 23), .int (nI (tn G 22 ((600 * e) + (tn B2 28 e + j)))), .int (nI (e)), .ref am]) rfl rfl (Nat.le_of_ble_eq_true rfl) ?_
                  refine VR.iald h (j := 23) (i := (600 * e) + (tn B2 28 e + j)) rfl rfl (by show _ < 7200; omega) (by decide +kernel) (v := (tr G 23 ((600 * e) + (tn B2 28 e + j)))) (mval_3 rfl) ?_
                  refine VR.blk h [(.iconst 1, 1)] (by decide +kernel) (pc' := 179) (ls' := [some (.ref am), some (.int (nI (e))), some (.int (nI (b))), some (.int (nI (n))), some (.int (nI (c9))), some (.int (nI (tn B2 28 e))), some (.int (oI (lkF B2 e (tf B2 1 - 1)))), some (.int (nI (tn B2 28 e + j))), some (.int (nI ((600 * e) + (tn B2 28 e + j))))]) (st' := [.int (nI (1)), .int (tr G 23 ((600 * e) + (tn B2 28 e + j))), .int (nI (tn G 22 ((600 * e) + (tn B2 28 e + j)))), .int (nI (e)), .ref am]) rfl rfl (Nat.le_of_ble_eq_true rfl) ?_
                  refine VR.call h (np := 4) (st := []) (r_answers hls G e (tn G 22 ((600 * e) + (tn B2 28 e + j))) (tr G 23 ((600 * e) + (tn B2 28 e + j))) true (K + 1 + j) (by omega) (by omega) (by omega) G53 (by omega) hBG (by omega)) wc_X11_answers wn_RX11 (Or.inl wm_RX11_187) wi_X11_answers we_X11_answers (by decide +kernel) rfl (by decide) (by decide) (by simp [Value.category]) (by decide +kernel) (by simp [oI_s, bI_f, bI_t]) ?_
                  refine VR.incN h (x := tn B2 28 e + j) (i := 7) (by decide +kernel) rfl (Nat.le_of_ble_eq_true rfl) ?_
                  refine VR.eqL (ls' := [some (.ref am), some (.int (nI (e))), some (.int (nI (b))), some (.int (nI (n))), some (.int (nI (c9))), some (.int (nI (tn B2 28 e))), some (.int (oI (lkF B2 e (tf B2 1 - 1)))), some (.int (nI ((tn B2 28 e + j) + 1))), some (.int (nI ((600 * e) + (tn B2 28 e + j))))]) rfl ?_
                  refine VR.goto h (off := -64) (tgt := 121) (by decide +kernel) (by decide) ?_
                  refine VR.eqA (A' := (aaL B3 e (tn B2 28 e) ((j + 1)))) (by rw [aaL, hG]; unfold aaS; rw [if_pos (Or.inr q159_211)]) ?_
                  refine VR.drop 8 (ls' := [some (.ref am), some (.int (nI (e))), some (.int (nI (b))), some (.int (nI (n))), some (.int (nI (c9))), some (.int (nI (tn B2 28 e))), some (.int (oI (lkF B2 e (tf B2 1 - 1)))), some (.int (nI ((tn B2 28 e + j) + 1))), none]) rfl ?_
                  refine VR.eqL (ls' := [some (.ref am), some (.int (nI (e))), some (.int (nI (b))), some (.int (nI (n))), some (.int (nI (c9))), some (.int (nI (tn B2 28 e))), some (.int (oI (lkF B2 e (tf B2 1 - 1)))), some (.int (nI (tn B2 28 e + ((j + 1))))), none]) rfl ?_
                  exact ih121 ((tn B3 28 e - tn B2 28 e) - (j + 1)) (by omega) (j + 1) rfl (by omega)
        refine VR.eqA (A' := (aaL B3 e (tn B2 28 e) 0)) rfl ?_
        refine VR.eqL (ls' := [some (.ref am), some (.int (nI (e))), some (.int (nI (b))), some (.int (nI (n))), some (.int (nI (c9))), some (.int (nI (tn B2 28 e))), some (.int (oI (lkF B2 e (tf B2 1 - 1)))), some (.int (nI (tn B2 28 e + 0))), none]) rfl ?_
        exact loop121 _ 0 rfl (Nat.zero_le _)
      refine VR.blk h [(.aload_n 0, 1)] (by decide +kernel) (pc' := 83) (ls' := [some (.ref am), some (.int (nI (e))), some (.int (nI (b))), some (.int (nI (n))), some (.int (nI (c9))), none, none, none, none]) (st' := [.ref am]) rfl rfl (Nat.le_of_ble_eq_true rfl) ?_
      refine VR.getA h (j := 28) rfl (Or.inl wf_RX11_75) (by decide +kernel) ?_
      refine VR.blk h [(.iload_n 1, 1)] (by decide +kernel) (pc' := 87) (ls' := [some (.ref am), some (.int (nI (e))), some (.int (nI (b))), some (.int (nI (n))), some (.int (nI (c9))), none, none, none, none]) (st' := [.int (nI (e)), .ref (ad 28)]) rfl rfl (Nat.le_of_ble_eq_true rfl) ?_
      refine VR.iald h (j := 28) (i := e) rfl rfl (by show _ < 12; omega) (by decide +kernel) (v := (nI (tn B2 28 e))) (mval_1 rfl) ?_
      have nb249 := N2.2 28 e
      refine VR.blk h [(.istore 5, 2), (.aload_n 0, 1), (.iload_n 1, 1)] (by decide +kernel) (pc' := 92) (ls' := [some (.ref am), some (.int (nI (e))), some (.int (nI (b))), some (.int (nI (n))), some (.int (nI (c9))), some (.int (nI (tn B2 28 e))), none, none, none]) (st' := [.int (nI (e)), .ref am]) rfl rfl (Nat.le_of_ble_eq_true rfl) ?_
      refine VR.call h (np := 1) (st := []) (r_leastKnown hls B2 e (K + 1) he (by omega) (by omega) N2 (by omega)) wc_X11_leastKnown wn_RX11 (Or.inl wm_RX11_212) wi_X11_leastKnown we_X11_leastKnown (by decide +kernel) rfl (by decide) (by decide) (by simp [Value.category]) (by decide +kernel) rfl ?_
      refine VR.blk h [(.istore 6, 2), (.aload_n 0, 1)] (by decide +kernel) (pc' := 98) (ls' := [some (.ref am), some (.int (nI (e))), some (.int (nI (b))), some (.int (nI (n))), some (.int (nI (c9))), some (.int (nI (tn B2 28 e))), some (.int (oI (lkF B2 e (tf B2 1 - 1)))), none, none]) (st' := [.ref am]) rfl rfl (Nat.le_of_ble_eq_true rfl) ?_
      refine VR.getA h (j := 28) rfl (Or.inl wf_RX11_75) (by decide +kernel) ?_
      refine VR.blk h [(.iload_n 1, 1)] (by decide +kernel) (pc' := 102) (ls' := [some (.ref am), some (.int (nI (e))), some (.int (nI (b))), some (.int (nI (n))), some (.int (nI (c9))), some (.int (nI (tn B2 28 e))), some (.int (oI (lkF B2 e (tf B2 1 - 1)))), none, none]) (st' := [.int (nI (e)), .ref (ad 28)]) rfl rfl (Nat.le_of_ble_eq_true rfl) ?_
      have join116 : ∀ bb116 : Nat, bb116 = (if tn B2 28 e + 1 < lkF B2 e (tf B2 1 - 1) then lkF B2 e (tf B2 1 - 1) - 1 else tn B2 28 e) → VR l D tc A0 p e9 (rmd 3 0 0) s m args below meth c 9 Q am ad B2 116 [some (.ref am), some (.int (nI (e))), some (.int (nI (b))), some (.int (nI (n))), some (.int (nI (c9))), some (.int (nI (tn B2 28 e))), some (.int (oI (lkF B2 e (tf B2 1 - 1)))), none, none] [.int (nI (bb116)), .int (nI (e)), .ref (ad 28)] := by
        intro bb116 hb116; subst hb116
        refine VR.iastN h (j := 28) (i := e) rfl rfl (by show _ < 12; omega) (by decide +kernel) ?_
        exact st117 _ rfl
      refine VR.blk h [(.iload 6, 2), (.iload 5, 2)] (by decide +kernel) (pc' := 106) (ls' := [some (.ref am), some (.int (nI (e))), some (.int (nI (b))), some (.int (nI (n))), some (.int (nI (c9))), some (.int (nI (tn B2 28 e))), some (.int (oI (lkF B2 e (tf B2 1 - 1)))), none, none]) (st' := [.int (nI (tn B2 28 e)), .int (oI (lkF B2 e (tf B2 1 - 1))), .int (nI (e)), .ref (ad 28)]) rfl rfl (Nat.le_of_ble_eq_true rfl) ?_
      refine VR.icmp_le h (off := 8) (by decide +kernel) (tgt := 114) (by decide) (fun q => ?_) (fun q => ?_)
      · have q106_260 := ((oI_leN (by omega) (by omega)).mp q)
        clear q
        refine VR.blk h [(.iload 5, 2)] (by decide +kernel) (pc' := 116) (ls' := [some (.ref am), some (.int (nI (e))), some (.int (nI (b))), some (.int (nI (n))), some (.int (nI (c9))), some (.int (nI (tn B2 28 e))), some (.int (oI (lkF B2 e (tf B2 1 - 1)))), none, none]) (st' := [.int (nI (tn B2 28 e)), .int (nI (e)), .ref (ad 28)]) rfl rfl (Nat.le_of_ble_eq_true rfl) ?_
        exact join116 _ (by first | exact (if_pos q106_260).symm | exact (if_neg q106_260).symm | exact (if_neg (by omega)).symm | exact (if_pos (by omega)).symm | exact (if_neg (by rw [q106_260]; decide)).symm)
      · have q106_260 : ¬ _ := (fun z => q ((oI_leN (by omega) (by omega)).mpr z))
        clear q
        refine VR.blk h [(.iload 6, 2)] (by decide +kernel) (pc' := 111) (ls' := [some (.ref am), some (.int (nI (e))), some (.int (nI (b))), some (.int (nI (n))), some (.int (nI (c9))), some (.int (nI (tn B2 28 e))), some (.int (oI (lkF B2 e (tf B2 1 - 1)))), none, none]) (st' := [.int (oI (lkF B2 e (tf B2 1 - 1))), .int (nI (e)), .ref (ad 28)]) rfl rfl (Nat.le_of_ble_eq_true rfl) ?_
        refine VR.goto h (off := 5) (tgt := 116) (by decide +kernel) (by decide) ?_
        refine VR.top (v' := .int (nI ((lkF B2 e (tf B2 1 - 1)) - 1))) (oI_pos (by omega)) ?_
        exact join116 _ (by first | exact (if_pos q106_260).symm | exact (if_neg q106_260).symm | exact (if_neg (by omega)).symm | exact (if_pos (by omega)).symm | exact (if_neg (by rw [q106_260]; decide)).symm)
    refine VR.blk h [(.iconst 0, 1), (.istore 5, 2)] (by decide +kernel) (pc' := 28) (ls' := [some (.ref am), some (.int (nI (e))), some (.int (nI (b))), some (.int (nI (n))), some (.int (nI (c9))), some (.int (nI (0))), none, none, none]) (st' := []) rfl rfl (Nat.le_of_ble_eq_true rfl) ?_
    have loop28 : ∀ (t k : Nat), tn B1 37 e - k = t → k ≤ tn B1 37 e → VR l D tc A0 p e9 (rmd 3 0 0) s m args below meth c 9 Q am ad (awL B1 e b c9 k) 28 [some (.ref am), some (.int (nI (e))), some (.int (nI (b))), some (.int (nI (n))), some (.int (nI (c9))), some (.int (nI (k))), none, none, none] [] := by
      intro t; induction t using Nat.strongRecOn with
      | _ t ih28 =>
        intro k ht28 hk28
        obtain ⟨G1, G2, G3, G4, G5⟩ := awL_inv (e := e) (c := c9) hb B136 K1 N1 (by omega) k
        generalize hG : awL B1 e b c9 k = G at G1 G2 G3 G4 G5 ⊢
        have g37 := G4 37 e (by decide)
        refine VR.blk h [(.iload 5, 2), (.aload_n 0, 1)] (by decide +kernel) (pc' := 31) (ls' := [some (.ref am), some (.int (nI (e))), some (.int (nI (b))), some (.int (nI (n))), some (.int (nI (c9))), some (.int (nI (k))), none, none, none]) (st' := [.ref am, .int (nI (k))]) rfl rfl (Nat.le_of_ble_eq_true rfl) ?_
        refine VR.getA h (j := 37) rfl (Or.inl wf_RX11_102) (by decide +kernel) ?_
        refine VR.blk h [(.iload_n 1, 1)] (by decide +kernel) (pc' := 35) (ls' := [some (.ref am), some (.int (nI (e))), some (.int (nI (b))), some (.int (nI (n))), some (.int (nI (c9))), some (.int (nI (k))), none, none, none]) (st' := [.int (nI (e)), .ref (ad 37), .int (nI (k))]) rfl rfl (Nat.le_of_ble_eq_true rfl) ?_
        refine VR.iald h (j := 37) (i := e) rfl rfl (by show _ < 12; omega) (by decide +kernel) (v := (nI (tn G 37 e))) (mval_1 rfl) ?_
        have nb283 := G2.2 37 e
        refine VR.icmp_ge h (off := 46) (by decide +kernel) (tgt := 82) (by decide) (fun q => ?_) (fun q => ?_)
        · have q36_284 := ((nI_leI (by omega) (by omega)).mp q)
          clear q
          refine VR.drop 5 (ls' := [some (.ref am), some (.int (nI (e))), some (.int (nI (b))), some (.int (nI (n))), some (.int (nI (c9))), none, none, none, none]) rfl ?_
          exact st82 _ (by obtain rfl : k = tn B1 37 e := (by omega); exact hG.symm)
        · have q36_284 : ¬ _ := (fun z => q ((nI_leI (by omega) (by omega)).mpr z))
          clear q
          refine VR.blk h [(.aload_n 0, 1)] (by decide +kernel) (pc' := 40) (ls' := [some (.ref am), some (.int (nI (e))), some (.int (nI (b))), some (.int (nI (n))), some (.int (nI (c9))), some (.int (nI (k))), none, none, none]) (st' := [.ref am]) rfl rfl (Nat.le_of_ble_eq_true rfl) ?_
          refine VR.getA h (j := 35) rfl (Or.inl wf_RX11_96) (by decide +kernel) ?_
          refine VR.blk h [(.sipush 600, 3), (.iload_n 1, 1)] (by decide +kernel) (pc' := 47) (ls' := [some (.ref am), some (.int (nI (e))), some (.int (nI (b))), some (.int (nI (n))), some (.int (nI (c9))), some (.int (nI (k))), none, none, none]) (st' := [.int (nI (e)), .int (nI (600)), .ref (ad 35)]) rfl rfl (Nat.le_of_ble_eq_true rfl) ?_
          refine VR.mulN h (by decide +kernel) (Nat.le_of_ble_eq_true rfl) ?_
          refine VR.blk h [(.iload 5, 2)] (by decide +kernel) (pc' := 50) (ls' := [some (.ref am), some (.int (nI (e))), some (.int (nI (b))), some (.int (nI (n))), some (.int (nI (c9))), some (.int (nI (k))), none, none, none]) (st' := [.int (nI (k)), .int (nI (600 * e)), .ref (ad 35)]) rfl rfl (Nat.le_of_ble_eq_true rfl) ?_
          refine VR.addN h (by decide +kernel) (Nat.le_of_ble_eq_true rfl) ?_
          refine VR.iald h (j := 35) (i := (600 * e) + k) rfl rfl (by show _ < 7200; omega) (by decide +kernel) (v := (nI (tn G 35 ((600 * e) + k)))) (mval_1 rfl) ?_
          have nb298 := G2.2 35 ((600 * e) + k)
          refine VR.blk h [(.iload 4, 2)] (by decide +kernel) (pc' := 54) (ls' := [some (.ref am), some (.int (nI (e))), some (.int (nI (b))), some (.int (nI (n))), some (.int (nI (c9))), some (.int (nI (k))), none, none, none]) (st' := [.int (nI (c9)), .int (nI (tn G 35 ((600 * e) + k)))]) rfl rfl (Nat.le_of_ble_eq_true rfl) ?_
          refine VR.icmp_gt h (off := 22) (by decide +kernel) (tgt := 76) (by decide) (fun q => ?_) (fun q => ?_)
          · have q54_300 := ((nI_ltI (by omega) (by omega)).mp q)
            clear q
            refine VR.incN h (x := k) (i := 5) (by decide +kernel) rfl (Nat.le_of_ble_eq_true rfl) ?_
            refine VR.eqL (ls' := [some (.ref am), some (.int (nI (e))), some (.int (nI (b))), some (.int (nI (n))), some (.int (nI (c9))), some (.int (nI (k + 1))), none, none, none]) rfl ?_
            refine VR.goto h (off := -51) (tgt := 28) (by decide +kernel) (by decide) ?_
            refine VR.eqA (A' := (awL B1 e b c9 ((k + 1)))) (by rw [awL, hG]; unfold awS; rw [if_neg (by omega)]) ?_
            refine VR.eqL (ls' := [some (.ref am), some (.int (nI (e))), some (.int (nI (b))), some (.int (nI (n))), some (.int (nI (c9))), some (.int (nI ((k + 1)))), none, none, none]) rfl ?_
            exact ih28 (tn B1 37 e - (k + 1)) (by omega) (k + 1) rfl (by omega)
          · have q54_300 : ¬ _ := (fun z => q ((nI_ltI (by omega) (by omega)).mpr z))
            clear q
            refine VR.blk h [(.aload_n 0, 1)] (by decide +kernel) (pc' := 58) (ls' := [some (.ref am), some (.int (nI (e))), some (.int (nI (b))), some (.int (nI (n))), some (.int (nI (c9))), some (.int (nI (k))), none, none, none]) (st' := [.ref am]) rfl rfl (Nat.le_of_ble_eq_true rfl) ?_
            refine VR.getA h (j := 36) rfl (Or.inl wf_RX11_99) (by decide +kernel) ?_
            refine VR.blk h [(.sipush 600, 3), (.iload_n 1, 1)] (by decide +kernel) (pc' := 65) (ls' := [some (.ref am), some (.int (nI (e))), some (.int (nI (b))), some (.int (nI (n))), some (.int (nI (c9))), some (.int (nI (k))), none, none, none]) (st' := [.int (nI (e)), .int (nI (600)), .ref (ad 36)]) rfl rfl (Nat.le_of_ble_eq_true rfl) ?_
            refine VR.mulN h (by decide +kernel) (Nat.le_of_ble_eq_true rfl) ?_
            refine VR.blk h [(.iload 5, 2)] (by decide +kernel) (pc' := 68) (ls' := [some (.ref am), some (.int (nI (e))), some (.int (nI (b))), some (.int (nI (n))), some (.int (nI (c9))), some (.int (nI (k))), none, none, none]) (st' := [.int (nI (k)), .int (nI (600 * e)), .ref (ad 36)]) rfl rfl (Nat.le_of_ble_eq_true rfl) ?_
            have pwz : 2 ^ b ≤ 4 := pow2 hb
            refine VR.addN h (by decide +kernel) (Nat.le_of_ble_eq_true rfl) ?_
            refine VR.blk h [(.dup2, 1)] (by decide +kernel) (pc' := 70) (ls' := [some (.ref am), some (.int (nI (e))), some (.int (nI (b))), some (.int (nI (n))), some (.int (nI (c9))), some (.int (nI (k))), none, none, none]) (st' := [.int (nI ((600 * e) + k)), .ref (ad 36), .int (nI ((600 * e) + k)), .ref (ad 36)]) rfl rfl (Nat.le_of_ble_eq_true rfl) ?_
            refine VR.iald h (j := 36) (i := (600 * e) + k) rfl rfl (by show _ < 7200; omega) (by decide +kernel) (v := (nI (tn G 36 ((600 * e) + k)))) (mval_1 rfl) ?_
            have nb320 := G2.2 36 ((600 * e) + k)
            refine VR.blk h [(.iconst 1, 1), (.iload_n 2, 1)] (by decide +kernel) (pc' := 73) (ls' := [some (.ref am), some (.int (nI (e))), some (.int (nI (b))), some (.int (nI (n))), some (.int (nI (c9))), some (.int (nI (k))), none, none, none]) (st' := [.int (nI (b)), .int (nI (1)), .int (nI (tn G 36 ((600 * e) + k))), .int (nI ((600 * e) + k)), .ref (ad 36)]) rfl rfl (Nat.le_of_ble_eq_true rfl) ?_
            refine VR.shl1 h (v := nI (2 ^ b)) (shl1 (by omega)) (by decide +kernel) ?_
            refine VR.orN h (v := nI ((tn G 36 ((600 * e) + k)) ||| (2 ^ b))) (nI_or _ _) (by decide +kernel) (Nat.le_of_ble_eq_true rfl) ?_
            refine VR.iastN h (j := 36) (i := (600 * e) + k) rfl rfl (by show _ < 7200; omega) (by decide +kernel) ?_
            refine VR.incN h (x := k) (i := 5) (by decide +kernel) rfl (Nat.le_of_ble_eq_true rfl) ?_
            refine VR.eqL (ls' := [some (.ref am), some (.int (nI (e))), some (.int (nI (b))), some (.int (nI (n))), some (.int (nI (c9))), some (.int (nI (k + 1))), none, none, none]) rfl ?_
            refine VR.goto h (off := -51) (tgt := 28) (by decide +kernel) (by decide) ?_
            refine VR.eqA (A' := (awL B1 e b c9 ((k + 1)))) (by rw [awL, hG]; unfold awS; rw [if_pos (by omega)]) ?_
            refine VR.eqL (ls' := [some (.ref am), some (.int (nI (e))), some (.int (nI (b))), some (.int (nI (n))), some (.int (nI (c9))), some (.int (nI ((k + 1)))), none, none, none]) rfl ?_
            exact ih28 (tn B1 37 e - (k + 1)) (by omega) (k + 1) rfl (by omega)
    refine VR.eqA (A' := (awL B1 e b c9 0)) rfl ?_
    refine VR.eqL (ls' := [some (.ref am), some (.int (nI (e))), some (.int (nI (b))), some (.int (nI (n))), some (.int (nI (c9))), some (.int (nI (0))), none, none, none]) rfl ?_
    exact loop28 _ 0 rfl (Nat.zero_le _)
  refine VR.blk h [(.iload_n 3, 1), (.aload_n 0, 1)] (by decide +kernel) (pc' := 2) (ls' := [some (.ref am), some (.int (nI (e))), some (.int (nI (b))), some (.int (nI (n))), some (.int (nI (c9))), none, none, none, none]) (st' := [.ref am, .int (nI (n))]) rfl rfl (Nat.le_of_ble_eq_true rfl) ?_
  refine VR.getA h (j := 32) rfl (Or.inl wf_RX11_87) (by decide +kernel) ?_
  refine VR.blk h [(.iconst 3, 1), (.iload_n 1, 1)] (by decide +kernel) (pc' := 7) (ls' := [some (.ref am), some (.int (nI (e))), some (.int (nI (b))), some (.int (nI (n))), some (.int (nI (c9))), none, none, none, none]) (st' := [.int (nI (e)), .int (nI (3)), .ref (ad 32), .int (nI (n))]) rfl rfl (Nat.le_of_ble_eq_true rfl) ?_
  refine VR.mulN h (by decide +kernel) (Nat.le_of_ble_eq_true rfl) ?_
  refine VR.blk h [(.iload_n 2, 1)] (by decide +kernel) (pc' := 9) (ls' := [some (.ref am), some (.int (nI (e))), some (.int (nI (b))), some (.int (nI (n))), some (.int (nI (c9))), none, none, none, none]) (st' := [.int (nI (b)), .int (nI (3 * e)), .ref (ad 32), .int (nI (n))]) rfl rfl (Nat.le_of_ble_eq_true rfl) ?_
  refine VR.addN h (by decide +kernel) (Nat.le_of_ble_eq_true rfl) ?_
  refine VR.iald h (j := 32) (i := (3 * e) + b) rfl rfl (by show _ < 36; omega) (by decide +kernel) (v := (oI (tn A 32 ((3 * e) + b)))) (mval_2 rfl) ?_
  have nb341 := hB.2 32 ((3 * e) + b)
  refine VR.icmp_le h (off := 14) (by decide +kernel) (tgt := 25) (by decide) (fun q => ?_) (fun q => ?_)
  · have q11_342 := ((nI_leO (by omega) (by omega)).mp q)
    clear q
    exact st25 _ (by unfold raA; (repeat (first | rw [if_pos (by omega)] | rw [if_neg (by omega)])) <;> rfl)
  · have q11_342 : ¬ _ := (fun z => q ((nI_leO (by omega) (by omega)).mpr z))
    clear q
    refine VR.blk h [(.aload_n 0, 1)] (by decide +kernel) (pc' := 15) (ls' := [some (.ref am), some (.int (nI (e))), some (.int (nI (b))), some (.int (nI (n))), some (.int (nI (c9))), none, none, none, none]) (st' := [.ref am]) rfl rfl (Nat.le_of_ble_eq_true rfl) ?_
    refine VR.getA h (j := 32) rfl (Or.inl wf_RX11_87) (by decide +kernel) ?_
    refine VR.blk h [(.iconst 3, 1), (.iload_n 1, 1)] (by decide +kernel) (pc' := 20) (ls' := [some (.ref am), some (.int (nI (e))), some (.int (nI (b))), some (.int (nI (n))), some (.int (nI (c9))), none, none, none, none]) (st' := [.int (nI (e)), .int (nI (3)), .ref (ad 32)]) rfl rfl (Nat.le_of_ble_eq_true rfl) ?_
    refine VR.mulN h (by decide +kernel) (Nat.le_of_ble_eq_true rfl) ?_
    refine VR.blk h [(.iload_n 2, 1)] (by decide +kernel) (pc' := 22) (ls' := [some (.ref am), some (.int (nI (e))), some (.int (nI (b))), some (.int (nI (n))), some (.int (nI (c9))), none, none, none, none]) (st' := [.int (nI (b)), .int (nI (3 * e)), .ref (ad 32)]) rfl rfl (Nat.le_of_ble_eq_true rfl) ?_
    refine VR.addN h (by decide +kernel) (Nat.le_of_ble_eq_true rfl) ?_
    refine VR.blk h [(.iload_n 3, 1)] (by decide +kernel) (pc' := 24) (ls' := [some (.ref am), some (.int (nI (e))), some (.int (nI (b))), some (.int (nI (n))), some (.int (nI (c9))), none, none, none, none]) (st' := [.int (nI (n)), .int (nI ((3 * e) + b)), .ref (ad 32)]) rfl rfl (Nat.le_of_ble_eq_true rfl) ?_
    refine VR.top (v' := .int (oI (n + 1))) (by rw [oI_s]) ?_
    refine VR.iastO h (j := 32) (i := (3 * e) + b) rfl rfl (by show _ < 36; omega) (by decide +kernel) ?_
    exact st25 _ (by unfold raA; (repeat (first | rw [if_pos (by omega)] | rw [if_neg (by omega)])) <;> rfl)
