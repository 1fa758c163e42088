/-! ===== a request is carried out, or waits ===== -/
def exeC (A : TS) (e op : Nat) : TS :=
  if kbF A e (tn A 8 op) (tn A 28 e) (tn A 26 e) = true then synF (apC A e op true) e
  else if tf A 4 ≤ tn A 26 e + 1 - tn A 28 e then synF (ansF (apC A e op false) e op (apV A e op) false) e
  else ansF (apC A e op false) e op (apV A e op) false
theorem apC_row {A : TS} {e op : Nat} {late : Bool} : (∀ j, tf (apC A e op late) j = tf A j) ∧ (∀ j i, ¬ (j = 22 ∧ i = 600 * e + tn A 26 e) → ¬ (j = 26 ∧ i = e) → tn (apC A e op late) j i = tn A j i) ∧ (∀ j i, ¬ (j = 23 ∧ i = 600 * e + tn A 26 e) → ¬ (j = 3 ∧ i = 16 * e + tn A 8 op) → tr (apC A e op late) j i = tr A j i) ∧ (∀ j i, ¬ (j = 24 ∧ i = 600 * e + tn A 26 e) → ¬ (j = 25 ∧ i = 600 * e + tn A 26 e) → tb (apC A e op late) j i = tb A j i) ∧
    tn (apC A e op late) 26 e = tn A 26 e + 1 ∧ tn (apC A e op late) 22 (600 * e + tn A 26 e) = op ∧ tr (apC A e op late) 23 (600 * e + tn A 26 e) = apV A e op ∧ tb (apC A e op late) 24 (600 * e + tn A 26 e) = late ∧ tb (apC A e op late) 25 (600 * e + tn A 26 e) = false := by
  obtain ⟨r1, r2, r3, r4, s1, s2, s3, s4, s5⟩ := apG_row (A := A) (e := e) (op := op) (ans := apV A e op) (late := late)
  refine ⟨r1, r2, fun j i q1 q2 => ?_, r4, s1, s2, ?_, s4, s5⟩
  · unfold apC
    rw [tr_sr, if_neg q2]
    exact r3 j i q1
  · unfold apC
    rw [tr_sr, if_neg (by omega)]
    exact s3
theorem gcap_6 {M : Nat} (h : M < 600) : gcap M ≤ 898 := by
  unfold gcap
  split
  · omega
  · split <;> omega
set_option maxRecDepth 100000 in
set_option maxHeartbeats 4000000 in
theorem c_execute {l : Launch} {D : va_G} {tc : Nat → ClassId} {ax ay : Nat → Nat → Nat} {A : TS} {S : HS} (hls : l.stackTraces = false) (hS : RA tc (mx ax ay) A S) {e : Nat} {op : Nat} {K : Nat}  (he : e < tf A 38) (ho : op < tf A 13) (hk16 : tn A 8 op < 16) (hn6 : tn A 26 e < 600) (hsy : tn A 28 e ≤ tn A 26 e) (h9 : 700 ≤ K) (hB : NB K A) (hK : K < 1900000000) {post : Option Value → HS → Prop} (hp : ∀ (S8 : HS) (ax8 ay8 : Nat → Nat → Nat), (∀ g, g ≠ 3 → ax8 g = ax g) → RA tc (mx ax8 ay8) (exeC A e op) S8 → post none S8) : CM l D tc yX5_execute cX5_execute 4 (none) 9 10 2422 [.ref (ax 5 e), .ref (ax 6 op)] S post := by
  refine CM.of hls (by decide +kernel) (by simp [Value.category]) (Nat.le_of_ble_eq_true rfl) (fun A0 p e9 s m args below meth c sz h hr hnm hA => ?_)
  have h12 := hS.2.2.2.1.2.1
  have h13 := hS.2.2.2.1.2.2.2.1
  have h600 := hS.2.2.2.2.1 e he
  have hb26 := hB.2 26 e
  refine V.eqL (ls' := [some (.ref (ax 5 e)), some (.ref (ax 6 op)), none, none]) rfl ?_
  refine V.blk h [(.aload_n 0, 1), (.aload_n 1, 1)] (by decide +kernel) (pc' := 2) (ls' := [some (.ref (ax 5 e)), some (.ref (ax 6 op)), none, none]) (st' := [.ref (ax 6 op), .ref (ax 5 e)]) rfl rfl (Nat.le_of_ble_eq_true rfl) ?_
  refine V.getI h cls_6 (j := 3) rfl (hS.mem (show lv A 6 op from ho)) (hS.knd (show lv A 6 op from ho)) (Or.inr ⟨_, wf_RX5_94⟩) (by decide +kernel) (v := nI (tn A 8 op)) (hS.int (show lv A 6 op from ho) (by decide) (by decide) rfl) ?_
  have nb7 := hB.2 8 op
  refine V.callV h (np := 1) (st := []) (c_hasUnsynced hls hS (e := e) (ky := tn A 8 op) he (hB.2 8 op) hsy hB (by omega) (post := fun v S7 => v = some (.int (bI (kbF A e (tn A 8 op) (tn A 28 e) (tn A 26 e)))) ∧ S = S7) ⟨rfl, rfl⟩) wc_X5_hasUnsyncedOf wn_RX5 (Or.inl wm_RX5_150) wi_X5_hasUnsyncedOf we_X5_hasUnsyncedOf (by decide +kernel) rfl cls_5 (hS.mem (show lv A 5 e from he)) (hS.knd (show lv A 5 e from he)) (Nat.le_of_ble_eq_true rfl) (Nat.le_of_ble_eq_true rfl) (Nat.zero_le _) (Nat.zero_le _) (by simp [Value.category]) (by decide +kernel) rfl (fun v Z1 q9 => ?_)
  obtain ⟨rfl, hS9⟩ := q9
  subst hS9
  refine V.eq (S' := S) (ls' := [some (.ref (ax 5 e)), some (.ref (ax 6 op)), none, none]) (st' := [.int (bI (kbF A e (tn A 8 op) (tn A 28 e) (tn A 26 e)))]) rfl rfl rfl ?_
  refine V.blk h [(.istore_n 2, 1), (.aload_n 0, 1), (.aload_n 1, 1), (.iload_n 2, 1)] (by decide +kernel) (pc' := 12) (ls' := [some (.ref (ax 5 e)), some (.ref (ax 6 op)), some (.int (bI (kbF A e (tn A 8 op) (tn A 28 e) (tn A 26 e)))), none]) (st' := [.int (bI (kbF A e (tn A 8 op) (tn A 28 e) (tn A 26 e))), .ref (ax 6 op), .ref (ax 5 e)]) rfl rfl (Nat.le_of_ble_eq_true rfl) ?_
  refine V.callV h (np := 2) (st := []) (c_append hls hS (e := e) (op := op) (late := kbF A e (tn A 8 op) (tn A 28 e) (tn A 26 e)) (ms := 898) he ho hk16 hn6 (fun z => gcap_6 (z ▸ hn6)) h9 hB hK (post := fun v S8 => ∃ ax8 ay8, v = some (.ref (ax8 3 (600 * e + tn A 26 e))) ∧ (∀ g, g ≠ 3 → ax8 g = ax g) ∧ RA tc (mx ax8 ay8) (apC A e op (kbF A e (tn A 8 op) (tn A 28 e) (tn A 26 e))) S8) (fun S8 ax8 ay8 hx8 _ hr8 => ⟨ax8, ay8, rfl, hx8, hr8⟩)) wc_X5_append wn_RX5 (Or.inl wm_RX5_72) wi_X5_append we_X5_append (by decide +kernel) rfl cls_5 (hS.mem (show lv A 5 e from he)) (hS.knd (show lv A 5 e from he)) (Nat.le_of_ble_eq_true rfl) (Nat.le_of_ble_eq_true rfl) (by show 0 + 2 ≤ 10; omega) (by show 0 + 902 ≤ 2422; omega) (by simp [Value.category]) (by decide +kernel) rfl (fun v Z2 q9 => ?_)
  obtain ⟨ax1, ay1, rfl, hx1, hr1⟩ := q9
  obtain ⟨G, hG⟩ : ∃ X9 : TS, X9 = (apC A e op (kbF A e (tn A 8 op) (tn A 28 e) (tn A 26 e))) := ⟨_, rfl⟩
  rw [← hG] at hr1
  have grow := apC_row (A := A) (e := e) (op := op) (late := kbF A e (tn A 8 op) (tn A 28 e) (tn A 26 e))
  rw [← hG] at grow
  obtain ⟨w1, w2, w3, w4, w5, w6, w7, w8, w9⟩ := grow
  have g28 : tn G 28 e = tn A 28 e := w2 28 e (by omega) (by omega)
  have g4 : tf G 4 = tf A 4 := w1 4
  have g38 : e < tf G 38 := by rw [w1]; exact he
  have g13 : op < tf G 13 := by rw [w1]; exact ho
  refine V.eq (S' := Z2) (ls' := [some (.ref (ax1 5 e)), some (.ref (ax1 6 op)), some (.int (bI (kbF A e (tn A 8 op) (tn A 28 e) (tn A 26 e)))), none]) (st' := [.ref (ax1 3 (600 * e + tn A 26 e))]) rfl (by first | rfl | simp only [hx1 0 (by decide), hx1 5 (by decide), hx1 6 (by decide), hx1 7 (by decide), hx1 9 (by decide), hx1 20 (by decide)]) (by first | rfl | simp only [hx1 0 (by decide), hx1 5 (by decide), hx1 6 (by decide), hx1 7 (by decide), hx1 9 (by decide), hx1 20 (by decide)]) ?_
  refine V.blk h [(.astore_n 3, 1), (.iload_n 2, 1)] (by decide +kernel) (pc' := 17) (ls' := [some (.ref (ax1 5 e)), some (.ref (ax1 6 op)), some (.int (bI (kbF A e (tn A 8 op) (tn A 28 e) (tn A 26 e)))), some (.ref (ax1 3 (600 * e + tn A 26 e)))]) (st' := [.int (bI (kbF A e (tn A 8 op) (tn A 28 e) (tn A 26 e)))]) rfl rfl (Nat.le_of_ble_eq_true rfl) ?_
  refine V.if_ne h (off := 9) (by decide +kernel) (tgt := 26) (by decide) (fun q => ?_) (fun q => ?_)
  · have q17_26 := (bI_1 (fun z => q (bI_0.mpr z)))
    clear q
    refine V.blk h [(.iload_n 2, 1)] (by decide +kernel) (pc' := 27) (ls' := [some (.ref (ax1 5 e)), some (.ref (ax1 6 op)), some (.int (bI (kbF A e (tn A 8 op) (tn A 28 e) (tn A 26 e)))), some (.ref (ax1 3 (600 * e + tn A 26 e)))]) (st' := [.int (bI (kbF A e (tn A 8 op) (tn A 28 e) (tn A 26 e)))]) rfl rfl (Nat.le_of_ble_eq_true rfl) ?_
    refine V.if_ne h (off := 22) (by decide +kernel) (tgt := 49) (by decide) (fun q => ?_) (fun q => ?_)
    · have q27_30 := (bI_1 (fun z => q (bI_0.mpr z)))
      clear q
      refine V.blk h [(.aload_n 0, 1)] (by decide +kernel) (pc' := 50) (ls' := [some (.ref (ax1 5 e)), some (.ref (ax1 6 op)), some (.int (bI (kbF A e (tn A 8 op) (tn A 28 e) (tn A 26 e)))), some (.ref (ax1 3 (600 * e + tn A 26 e)))]) (st' := [.ref (ax1 5 e)]) rfl rfl (Nat.le_of_ble_eq_true rfl) ?_
      refine V.callV h (np := 0) (st := []) (c_sendSyncs hls hr1 (e := e) g38 (post := fun v S8 => v = none ∧ ∃ ay8, RA tc (mx ax1 ay8) (synF G e) S8) (fun S8 ay8 hr8 => ⟨rfl, ay8, hr8⟩)) wc_X5_sendSyncs wn_RX5 (Or.inl wm_RX5_147) wi_X5_sendSyncs we_X5_sendSyncs (by decide +kernel) rfl cls_5 (hr1.mem (show lv G 5 e from g38)) (hr1.knd (show lv G 5 e from g38)) (Nat.le_of_ble_eq_true rfl) (Nat.le_of_ble_eq_true rfl) (by show 2 + 6 ≤ 10; omega) (by show 902 + 1140 ≤ 2422; omega) (by simp [Value.category]) (by decide +kernel) rfl (fun v Z3 q9 => ?_)
      obtain ⟨rfl, ay4, hS5⟩ := q9
      exact V.vret h hA hr (hp _ _ _ hx1 (by unfold exeC; rw [if_pos q17_26]; rw [q17_26] at hG; rw [← hG]; exact hS5)) (by decide +kernel) (by omega) (by omega)
    · have q27_30 := (bI_0.mp q)
      clear q
      exact absurd (q17_26.symm.trans q27_30) (by decide)
  · have q17_26 := (bI_0.mp q)
    clear q
    refine V.blk h [(.aload_n 0, 1), (.aload_n 3, 1), (.iconst 0, 1)] (by decide +kernel) (pc' := 23) (ls' := [some (.ref (ax1 5 e)), some (.ref (ax1 6 op)), some (.int (bI (kbF A e (tn A 8 op) (tn A 28 e) (tn A 26 e)))), some (.ref (ax1 3 (600 * e + tn A 26 e)))]) (st' := [.int (nI (0)), .ref (ax1 3 (600 * e + tn A 26 e)), .ref (ax1 5 e)]) rfl rfl (Nat.le_of_ble_eq_true rfl) ?_
    refine V.top (v' := .int (bI false)) (by decide) ?_
    refine V.callV h (np := 2) (st := []) (c_sendAnswer hls hr1 (e := e) (k := tn A 26 e) (sa := false) (ms := 373) g38 (by omega) hr1.gc (post := fun v S8 => v = none ∧ ∃ ay8, RA tc (mx ax1 ay8) (ansF G e (tn G 22 (600 * e + tn A 26 e)) (tr G 23 (600 * e + tn A 26 e)) false) S8) (fun S8 ay8 hr8 _ => ⟨rfl, ay8, hr8⟩)) wc_X5_sendAnswer wn_RX5 (Or.inl wm_RX5_140) wi_X5_sendAnswer we_X5_sendAnswer (by decide +kernel) rfl cls_5 (hr1.mem (show lv G 5 e from g38)) (hr1.knd (show lv G 5 e from g38)) (Nat.le_of_ble_eq_true rfl) (Nat.le_of_ble_eq_true rfl) (by show 2 + 2 ≤ 10; omega) (by show 902 + 380 ≤ 2422; omega) (by simp [Value.category]) (by decide +kernel) rfl (fun v Z6 q9 => ?_)
    obtain ⟨rfl, ay7, hS8⟩ := q9
    obtain ⟨W, hW⟩ : ∃ X9 : TS, X9 = (ansF G e (tn G 22 (600 * e + tn A 26 e)) (tr G 23 (600 * e + tn A 26 e)) false) := ⟨_, rfl⟩
    rw [← hW] at hS8
    have kw : keepL G W := by rw [hW]; exact ans_keep ..
    have ww38 : e < tf W 38 := by rw [kw.1 38 (by decide) (by decide)]; exact g38
    have ww4 : tf W 4 = tf A 4 := (kw.1 4 (by decide) (by decide)).trans g4
    have ww26 : tn W 26 e = tn A 26 e + 1 := (kw.2.1 26 e (by decide)).trans w5
    have ww28 : tn W 28 e = tn A 28 e := (kw.2.1 28 e (by decide)).trans g28
    have hbt := hB.1 4
    refine V.blk h [(.iload_n 2, 1)] (by decide +kernel) (pc' := 27) (ls' := [some (.ref (ax1 5 e)), some (.ref (ax1 6 op)), some (.int (bI (kbF A e (tn A 8 op) (tn A 28 e) (tn A 26 e)))), some (.ref (ax1 3 (600 * e + tn A 26 e)))]) (st' := [.int (bI (kbF A e (tn A 8 op) (tn A 28 e) (tn A 26 e)))]) rfl rfl (Nat.le_of_ble_eq_true rfl) ?_
    refine V.if_ne h (off := 22) (by decide +kernel) (tgt := 49) (by decide) (fun q => ?_) (fun q => ?_)
    · have q27_55 := (bI_1 (fun z => q (bI_0.mpr z)))
      clear q
      exact absurd (q17_26.symm.trans q27_55) (by decide)
    · have q27_55 := (bI_0.mp q)
      clear q
      refine V.blk h [(.aload_n 0, 1)] (by decide +kernel) (pc' := 31) (ls' := [some (.ref (ax1 5 e)), some (.ref (ax1 6 op)), some (.int (bI (kbF A e (tn A 8 op) (tn A 28 e) (tn A 26 e)))), some (.ref (ax1 3 (600 * e + tn A 26 e)))]) (st' := [.ref (ax1 5 e)]) rfl rfl (Nat.le_of_ble_eq_true rfl) ?_
      refine V.getP h cls_5 (j := 3) rfl (hS8.mem (show lv W 5 e from ww38)) (hS8.knd (show lv W 5 e from ww38)) (Or.inl wf_RX5_25) (by decide +kernel) (v := some (ax1 0 (3 + e))) (hS8.ptr (show lv W 5 e from ww38) (by decide) (by decide) rfl) ?_
      refine V.eq (S' := Z6) (ls' := [some (.ref (ax1 5 e)), some (.ref (ax1 6 op)), some (.int (bI (kbF A e (tn A 8 op) (tn A 28 e) (tn A 26 e)))), some (.ref (ax1 3 (600 * e + tn A 26 e)))]) (st' := [.ref (ax1 0 (3 + e))]) rfl rfl rfl ?_
      refine V.callV h (np := 0) (st := []) (s_log hls hS8 ww38 (post := fun v S7 => v = some (.int (nI (tn W 26 e))) ∧ Z6 = S7) ⟨rfl, rfl⟩) wc_Jx4a65c_size_8abf5 wn_RJx4a65c (Or.inl wm_RX5_58) wi_Jx4a65c_size_8abf5 we_Jx4a65c_size_8abf5 (by decide +kernel) rfl cls_0 (hS8.mem (show lv W 0 (3 + e) from (lv_log ww38 hS8.2.2.2.1.2.1))) (hS8.knd (show lv W 0 (3 + e) from (lv_log ww38 hS8.2.2.2.1.2.1))) (Nat.le_of_ble_eq_true rfl) (Nat.le_of_ble_eq_true rfl) (by show (2 + 2) + 0 ≤ 10; omega) (by show (902 + 380) + 0 ≤ 2422; omega) (by simp [Value.category]) (by decide +kernel) rfl (fun v Z9 q9 => ?_)
      obtain ⟨rfl, hS9⟩ := q9
      subst hS9
      refine V.eq (S' := Z6) (ls' := [some (.ref (ax1 5 e)), some (.ref (ax1 6 op)), some (.int (bI (kbF A e (tn A 8 op) (tn A 28 e) (tn A 26 e)))), some (.ref (ax1 3 (600 * e + tn A 26 e)))]) (st' := [.int (nI (tn W 26 e))]) rfl rfl rfl ?_
      refine V.blk h [(.aload_n 0, 1)] (by decide +kernel) (pc' := 38) (ls' := [some (.ref (ax1 5 e)), some (.ref (ax1 6 op)), some (.int (bI (kbF A e (tn A 8 op) (tn A 28 e) (tn A 26 e)))), some (.ref (ax1 3 (600 * e + tn A 26 e)))]) (st' := [.ref (ax1 5 e), .int (nI (tn W 26 e))]) rfl rfl (Nat.le_of_ble_eq_true rfl) ?_
      refine V.getI h cls_5 (j := 10) rfl (hS8.mem (show lv W 5 e from ww38)) (hS8.knd (show lv W 5 e from ww38)) (Or.inl wf_RX5_122) (by decide +kernel) (v := nI (tn W 28 e)) (hS8.int (show lv W 5 e from ww38) (by decide) (by decide) rfl) ?_
      refine V.subN h (by decide +kernel) (Nat.le_of_ble_eq_true rfl) (by omega) ?_
      refine V.blk h [(.aload_n 0, 1)] (by decide +kernel) (pc' := 43) (ls' := [some (.ref (ax1 5 e)), some (.ref (ax1 6 op)), some (.int (bI (kbF A e (tn A 8 op) (tn A 28 e) (tn A 26 e)))), some (.ref (ax1 3 (600 * e + tn A 26 e)))]) (st' := [.ref (ax1 5 e), .int (nI ((tn W 26 e) - (tn W 28 e)))]) rfl rfl (Nat.le_of_ble_eq_true rfl) ?_
      refine V.getI h cls_5 (j := 1) rfl (hS8.mem (show lv W 5 e from ww38)) (hS8.knd (show lv W 5 e from ww38)) (Or.inl wf_RX5_15) (by decide +kernel) (v := nI (tf W 4)) (hS8.int (show lv W 5 e from ww38) (by decide) (by decide) rfl) ?_
      refine V.icmp_lt h (off := 7) (by decide +kernel) (tgt := 53) (by decide) (fun q => ?_) (fun q => ?_)
      · have q46_73 := ((nI_ltI (by omega) (by omega)).mp q)
        clear q
        exact V.vret h hA hr (hp _ _ _ hx1 (by unfold exeC; rw [if_neg (by rw [q17_26]; decide), if_neg (by omega)]; rw [w6, w7] at hW; rw [q17_26] at hG; rw [← hG, ← hW]; exact hS8)) (by decide +kernel) (by omega) (by omega)
      · have q46_73 : ¬ _ := (fun z => q ((nI_ltI (by omega) (by omega)).mpr z))
        clear q
        refine V.blk h [(.aload_n 0, 1)] (by decide +kernel) (pc' := 50) (ls' := [some (.ref (ax1 5 e)), some (.ref (ax1 6 op)), some (.int (bI (kbF A e (tn A 8 op) (tn A 28 e) (tn A 26 e)))), some (.ref (ax1 3 (600 * e + tn A 26 e)))]) (st' := [.ref (ax1 5 e)]) rfl rfl (Nat.le_of_ble_eq_true rfl) ?_
        refine V.callV h (np := 0) (st := []) (c_sendSyncs hls hS8 (e := e) ww38 (post := fun v S8 => v = none ∧ ∃ ay8, RA tc (mx ax1 ay8) (synF W e) S8) (fun S8 ay8 hr8 => ⟨rfl, ay8, hr8⟩)) wc_X5_sendSyncs wn_RX5 (Or.inl wm_RX5_147) wi_X5_sendSyncs we_X5_sendSyncs (by decide +kernel) rfl cls_5 (hS8.mem (show lv W 5 e from ww38)) (hS8.knd (show lv W 5 e from ww38)) (Nat.le_of_ble_eq_true rfl) (Nat.le_of_ble_eq_true rfl) (by show (2 + 2) + 6 ≤ 10; omega) (by show (902 + 380) + 1140 ≤ 2422; omega) (by simp [Value.category]) (by decide +kernel) rfl (fun v Z10 q9 => ?_)
        obtain ⟨rfl, ay11, hS12⟩ := q9
        exact V.vret h hA hr (hp _ _ _ hx1 (by unfold exeC; rw [if_neg (by rw [q17_26]; decide), if_pos (by omega)]; rw [w6, w7] at hW; rw [q17_26] at hG; rw [← hG, ← hW]; exact hS12)) (by decide +kernel) (by omega) (by omega)
def waC (A : TS) (e op : Nat) : TS := if wfL A e op (tn A 37 e) = true then synF A e else gtG (synF A e) e op (tn A 26 e) (tr A 3 (16 * e + tn A 8 op)) (tn A 29 e + 1)
theorem wf_true {A : TS} {e op k : Nat} : ∀ {n : Nat}, tn A 33 (600 * e + k) = op → k < n → wfL A e op n = true
  | 0, _, h => absurd h (by omega)
  | n + 1, h1, h => by
    unfold wfL
    by_cases q : k = n
    · subst q
      simp only [Bool.or_eq_true, decide_eq_true_eq]
      exact Or.inr h1
    · rw [wf_true h1 (by omega : k < n)]
      rfl
theorem gt_8 {ax ay : Nat → Nat → Nat} {p i0 q t M : Nat} : ∃ ay1, aS (mx ax ay) 8 p i0 q t M = mx ax ay1 := ⟨_, SL.is (aS_SL (Or.inr rfl))⟩
set_option maxRecDepth 100000 in
set_option maxHeartbeats 4000000 in
theorem c_letWait {l : Launch} {D : va_G} {tc : Nat → ClassId} {ax ay : Nat → Nat → Nat} {A : TS} {S : HS} (hls : l.stackTraces = false) (hS : RA tc (mx ax ay) A S) {e : Nat} {op : Nat} {K : Nat}  (he : e < tf A 38) (ho : op < tf A 13) (hk16 : tn A 8 op < 16) (hg6 : tn A 37 e < 600) (hB : NB K A) (hK : K < 1900000000) {post : Option Value → HS → Prop} (hp : ∀ (S8 : HS) (ay8 : Nat → Nat → Nat), RA tc (mx ax ay8) (waC A e op) S8 → post none S8) : CM l D tc yX5_letWait cX5_letWait 3 (none) 9 8 2043 [.ref (ax 5 e), .ref (ax 6 op)] S post := by
  refine CM.of hls (by decide +kernel) (by simp [Value.category]) (Nat.le_of_ble_eq_true rfl) (fun A0 p e9 s m args below meth c sz h hr hnm hA => ?_)
  have h12 := hS.2.2.2.1.2.1
  have h13 := hS.2.2.2.1.2.2.2.1
  have h600 := hS.2.2.2.2.1 e he
  refine V.eqL (ls' := [some (.ref (ax 5 e)), some (.ref (ax 6 op)), none]) rfl ?_
  refine V.blk h [(.aload_n 0, 1)] (by decide +kernel) (pc' := 1) (ls' := [some (.ref (ax 5 e)), some (.ref (ax 6 op)), none]) (st' := [.ref (ax 5 e)]) rfl rfl (Nat.le_of_ble_eq_true rfl) ?_
  refine V.callV h (np := 0) (st := []) (c_sendSyncs hls hS (e := e) he (post := fun v S8 => v = none ∧ ∃ ay8, RA tc (mx ax ay8) (synF A e) S8) (fun S8 ay8 hr8 => ⟨rfl, ay8, hr8⟩)) wc_X5_sendSyncs wn_RX5 (Or.inl wm_RX5_147) wi_X5_sendSyncs we_X5_sendSyncs (by decide +kernel) rfl cls_5 (hS.mem (show lv A 5 e from he)) (hS.knd (show lv A 5 e from he)) (Nat.le_of_ble_eq_true rfl) (Nat.le_of_ble_eq_true rfl) (by show 0 + 6 ≤ 8; omega) (by show 0 + 1140 ≤ 2043; omega) (by simp [Value.category]) (by decide +kernel) rfl (fun v Z1 q9 => ?_)
  obtain ⟨rfl, ay2, hS3⟩ := q9
  obtain ⟨G, hG⟩ : ∃ X9 : TS, X9 = (synF A e) := ⟨_, rfl⟩
  rw [← hG] at hS3
  have gsyn := syn_keep A e
  have gsynB := syn_keepB A e
  rw [← hG] at gsyn gsynB
  have g1 : ∀ j, j ≠ 53 → j ≠ 54 → tf G j = tf A j := gsyn.1
  have g38 : e < tf G 38 := by rw [g1 38 (by decide) (by decide)]; exact he
  have g13 : op < tf G 13 := by rw [g1 13 (by decide) (by decide)]; exact ho
  have g37 : tn G 37 e = tn A 37 e := gsyn.2.1 37 e (by decide) (by omega)
  have g33 : ∀ i, tn G 33 i = tn A 33 i := fun i => gsyn.2.1 33 i (by decide) (by omega)
  have g26 : tn G 26 e = tn A 26 e := gsyn.2.1 26 e (by decide) (by omega)
  have g29 : tn G 29 e = tn A 29 e + 1 := gsyn.2.2
  have g8 : tn G 8 op = tn A 8 op := gsyn.2.1 8 op (by decide) (by omega)
  have g3 : ∀ i, tr G 3 i = tr A 3 i := fun i => gsynB.1 3 i (by decide)
  have gk16 : tn G 8 op < 16 := by rw [g8]; exact hk16
  have gw : ∀ n, wfL G e op n = wfL A e op n := fun n => by
    induction n with
    | zero => rfl
    | succ n ih => unfold wfL; rw [ih, g33]
  have g6 : tn G 37 e < 600 := by rw [g37]; exact hg6
  refine V.blk h [(.iconst 0, 1), (.istore_n 2, 1)] (by decide +kernel) (pc' := 6) (ls' := [some (.ref (ax 5 e)), some (.ref (ax 6 op)), some (.int (nI (0)))]) (st' := []) rfl rfl (Nat.le_of_ble_eq_true rfl) ?_
  have loop6 : ∀ (t k : Nat), tn G 37 e - k = t → k ≤ tn G 37 e → (wfL G e op k = false) → V l D tc A0 p e9 (rmd 9 8 2043) s m args below meth c 3 (MQ below (zQ D tc post S sz) args s 8 2043 (zAd S sz)) Z1 6 1140 6 [some (.ref (ax 5 e)), some (.ref (ax 6 op)), some (.int (nI (k)))] [] := by
    intro t; induction t using Nat.strongRecOn with
    | _ t ih6 =>
      intro k ht6 hk6 inv6
      refine V.blk h [(.iload_n 2, 1), (.aload_n 0, 1)] (by decide +kernel) (pc' := 8) (ls' := [some (.ref (ax 5 e)), some (.ref (ax 6 op)), some (.int (nI (k)))]) (st' := [.ref (ax 5 e), .int (nI (k))]) rfl rfl (Nat.le_of_ble_eq_true rfl) ?_
      refine V.getP h cls_5 (j := 4) rfl (hS3.mem (show lv G 5 e from g38)) (hS3.knd (show lv G 5 e from g38)) (Or.inl wf_RX5_29) (by decide +kernel) (v := some (ax 0 (15 + e))) (hS3.ptr (show lv G 5 e from g38) (by decide) (by decide) rfl) ?_
      refine V.eq (S' := Z1) (ls' := [some (.ref (ax 5 e)), some (.ref (ax 6 op)), some (.int (nI (k)))]) (st' := [.ref (ax 0 (15 + e)), .int (nI (k))]) rfl rfl rfl ?_
      refine V.callV h (np := 0) (st := [.int (nI (k))]) (s_gts hls hS3 g38 (post := fun v S7 => v = some (.int (nI (tn G 37 e))) ∧ Z1 = S7) ⟨rfl, rfl⟩) wc_Jx4a65c_size_8abf5 wn_RJx4a65c (Or.inl wm_RX5_58) wi_Jx4a65c_size_8abf5 we_Jx4a65c_size_8abf5 (by decide +kernel) rfl cls_0 (hS3.mem (show lv G 0 (15 + e) from (lv_gts g38))) (hS3.knd (show lv G 0 (15 + e) from (lv_gts g38))) (Nat.le_of_ble_eq_true rfl) (Nat.le_of_ble_eq_true rfl) (by show 6 + 0 ≤ 8; omega) (by show 1140 + 0 ≤ 2043; omega) (by simp [Value.category]) (by decide +kernel) rfl (fun v Z4 q9 => ?_)
      obtain ⟨rfl, hS9⟩ := q9
      subst hS9
      refine V.eq (S' := Z1) (ls' := [some (.ref (ax 5 e)), some (.ref (ax 6 op)), some (.int (nI (k)))]) (st' := [.int (nI (tn G 37 e)), .int (nI (k))]) rfl rfl rfl ?_
      refine V.icmp_ge h (off := 28) (by decide +kernel) (tgt := 42) (by decide) (fun q => ?_) (fun q => ?_)
      · have q14_39 := ((nI_leI (by omega) (by omega)).mp q)
        clear q
        refine V.blk h [(.aload_n 0, 1)] (by decide +kernel) (pc' := 43) (ls' := [some (.ref (ax 5 e)), some (.ref (ax 6 op)), some (.int (nI (k)))]) (st' := [.ref (ax 5 e)]) rfl rfl (Nat.le_of_ble_eq_true rfl) ?_
        refine V.getP h cls_5 (j := 4) rfl (hS3.mem (show lv G 5 e from g38)) (hS3.knd (show lv G 5 e from g38)) (Or.inl wf_RX5_29) (by decide +kernel) (v := some (ax 0 (15 + e))) (hS3.ptr (show lv G 5 e from g38) (by decide) (by decide) rfl) ?_
        refine V.eq (S' := Z1) (ls' := [some (.ref (ax 5 e)), some (.ref (ax 6 op)), some (.int (nI (k)))]) (st' := [.ref (ax 0 (15 + e))]) rfl rfl rfl ?_
        refine V.new h cls_8 wl_RX5_154 wz_RX8 wn_RX8 (by show 6 + 1 ≤ 8; omega) (by show 1140 + 5 ≤ 2043; omega) (by decide +kernel) (fun q5 hq5 => ?_)
        have hn6 := hS3.ext (hext.rfl.newO (k := 8) hq5)
        refine V.blk h [(.dup, 1), (.aload_n 1, 1), (.aload_n 0, 1)] (by decide +kernel) (pc' := 52) (ls' := [some (.ref (ax 5 e)), some (.ref (ax 6 op)), some (.int (nI (k)))]) (st' := [.ref (ax 5 e), .ref (ax 6 op), .ref q5, .ref q5, .ref (ax 0 (15 + e))]) rfl rfl (Nat.le_of_ble_eq_true rfl) ?_
        refine V.getP h cls_5 (j := 3) rfl (hn6.mem (show lv G 5 e from g38)) (hn6.knd (show lv G 5 e from g38)) (Or.inl wf_RX5_25) (by decide +kernel) (v := some (ax 0 (3 + e))) (hn6.ptr (show lv G 5 e from g38) (by decide) (by decide) rfl) ?_
        refine V.eq (S' := (newO Z1 q5 8)) (ls' := [some (.ref (ax 5 e)), some (.ref (ax 6 op)), some (.int (nI (k)))]) (st' := [.ref (ax 0 (3 + e)), .ref (ax 6 op), .ref q5, .ref q5, .ref (ax 0 (15 + e))]) rfl rfl rfl ?_
        refine V.callV h (np := 0) (st := [.ref (ax 6 op), .ref q5, .ref q5, .ref (ax 0 (15 + e))]) (s_log hls hn6 g38 (post := fun v S7 => v = some (.int (nI (tn G 26 e))) ∧ (newO Z1 q5 8) = S7) ⟨rfl, rfl⟩) wc_Jx4a65c_size_8abf5 wn_RJx4a65c (Or.inl wm_RX5_58) wi_Jx4a65c_size_8abf5 we_Jx4a65c_size_8abf5 (by decide +kernel) rfl cls_0 (hn6.mem (show lv G 0 (3 + e) from (lv_log g38 hn6.2.2.2.1.2.1))) (hn6.knd (show lv G 0 (3 + e) from (lv_log g38 hn6.2.2.2.1.2.1))) (Nat.le_of_ble_eq_true rfl) (Nat.le_of_ble_eq_true rfl) (by show (6 + 1) + 0 ≤ 8; omega) (by show (1140 + 5) + 0 ≤ 2043; omega) (by simp [Value.category]) (by decide +kernel) rfl (fun v Z7 q9 => ?_)
        obtain ⟨rfl, hS9⟩ := q9
        subst hS9
        refine V.eq (S' := (newO Z1 q5 8)) (ls' := [some (.ref (ax 5 e)), some (.ref (ax 6 op)), some (.int (nI (k)))]) (st' := [.int (nI (tn G 26 e)), .ref (ax 6 op), .ref q5, .ref q5, .ref (ax 0 (15 + e))]) rfl rfl rfl ?_
        refine V.blk h [(.aload_n 0, 1), (.aload_n 1, 1)] (by decide +kernel) (pc' := 60) (ls' := [some (.ref (ax 5 e)), some (.ref (ax 6 op)), some (.int (nI (k)))]) (st' := [.ref (ax 6 op), .ref (ax 5 e), .int (nI (tn G 26 e)), .ref (ax 6 op), .ref q5, .ref q5, .ref (ax 0 (15 + e))]) rfl rfl (Nat.le_of_ble_eq_true rfl) ?_
        refine V.getI h cls_6 (j := 3) rfl (hn6.mem (show lv G 6 op from g13)) (hn6.knd (show lv G 6 op from g13)) (Or.inr ⟨_, wf_RX5_94⟩) (by decide +kernel) (v := nI (tn G 8 op)) (hn6.int (show lv G 6 op from g13) (by decide) (by decide) rfl) ?_
        refine V.callV h (np := 1) (st := [.int (nI (tn G 26 e)), .ref (ax 6 op), .ref q5, .ref q5, .ref (ax 0 (15 + e))]) (c_valueOf hls hn6 (e := e) (ky := tn G 8 op) g38 (by omega) (post := fun v S7 => v = some (.int (tr G 3 (16 * e + (tn G 8 op)))) ∧ (newO Z1 q5 8) = S7) ⟨rfl, rfl⟩) wc_X5_valueOf wn_RX5 (Or.inl wm_RX5_99) wi_X5_valueOf we_X5_valueOf (by decide +kernel) rfl cls_5 (hn6.mem (show lv G 5 e from g38)) (hn6.knd (show lv G 5 e from g38)) (Nat.le_of_ble_eq_true rfl) (Nat.le_of_ble_eq_true rfl) (by show (6 + 1) + 0 ≤ 8; omega) (by show (1140 + 5) + 0 ≤ 2043; omega) (by simp [Value.category]) (by decide +kernel) rfl (fun v Z8 q9 => ?_)
        obtain ⟨rfl, hS9⟩ := q9
        subst hS9
        refine V.eq (S' := (newO Z1 q5 8)) (ls' := [some (.ref (ax 5 e)), some (.ref (ax 6 op)), some (.int (nI (k)))]) (st' := [.int (tr G 3 (16 * e + (tn G 8 op))), .int (nI (tn G 26 e)), .ref (ax 6 op), .ref q5, .ref q5, .ref (ax 0 (15 + e))]) rfl rfl rfl ?_
        refine V.blk h [(.aload_n 0, 1)] (by decide +kernel) (pc' := 67) (ls' := [some (.ref (ax 5 e)), some (.ref (ax 6 op)), some (.int (nI (k)))]) (st' := [.ref (ax 5 e), .int (tr G 3 (16 * e + (tn G 8 op))), .int (nI (tn G 26 e)), .ref (ax 6 op), .ref q5, .ref q5, .ref (ax 0 (15 + e))]) rfl rfl (Nat.le_of_ble_eq_true rfl) ?_
        refine V.getI h cls_5 (j := 11) rfl (hn6.mem (show lv G 5 e from g38)) (hn6.knd (show lv G 5 e from g38)) (Or.inl wf_RX5_157) (by decide +kernel) (v := nI (tn G 29 e)) (hn6.int (show lv G 5 e from g38) (by decide) (by decide) rfl) ?_
        refine V.callI h (np := 4) (st := [.ref q5, .ref (ax 0 (15 + e))]) (c_init8 hls (q := q5) (o := ax 6 op) (pl := tn G 26 e) (x := tr G 3 (16 * e + (tn G 8 op))) (sy := tn G 29 e) (show q5 ∈ zL (newO Z1 q5 8) from List.mem_append_right _ (List.mem_singleton.mpr rfl)) (show zK (newO Z1 q5 8) q5 = 8 from va_up_self _ _ _) (post := fun v S7 => v = none ∧ _ = S7) ⟨rfl, rfl⟩) wc_X8_init wn_RX8 (Or.inr ⟨_, wm_RX5_160⟩) wi_X8_init rfl (by decide +kernel) rfl (Nat.le_of_ble_eq_true rfl) (Nat.le_of_ble_eq_true rfl) (by show (6 + 1) + 0 ≤ 8; omega) (by show (1140 + 5) + 0 ≤ 2043; omega) (by simp [Value.category]) (by decide +kernel) rfl (fun v Z9 q9 => ?_)
        obtain ⟨rfl, hq9⟩ := q9
        refine V.gen (P := fun S7 => hext Z1 S7 ∧ GT S7 q5 (ax 6 op) (tn G 26 e) (tr G 3 (16 * e + (tn G 8 op))) (tn G 29 e) 0) (hq9 ▸ new8 hq5) (fun S10 hS10 => ?_)
        clear hq9
        have hRS10 := hS3.ext hS10.1
        refine V.callV h (np := 1) (st := []) (l_add hls hRS10 (i := 15 + e) (q := q5) (mc := 1) (ms := 898) (lv_gts g38) (by rw [lsz_g (by omega)]; exact g6) hS10.2.1 (by rw [lfam_g (by omega)]; exact hS10.2.2.1) (fun _ => Nat.le_refl _) (fun z => by rw [lsz_g (by omega)] at z; exact z ▸ gcap_6 g6) (post := fun v S7 => v = some (.int (nI 1)) ∧ ∃ t9 M9, LAdd tc (mx ax ay2) G S10 (15 + e) q5 S7 t9 M9) (fun S7 t9 M9 h9 => ⟨rfl, t9, M9, h9⟩)) wc_Jx4a65c_add_9ea2d wn_RJx4a65c (Or.inl wm_RX5_109) wi_Jx4a65c_add_9ea2d we_Jx4a65c_add_9ea2d (by decide +kernel) rfl cls_0 (hRS10.mem (show lv G 0 (15 + e) from (lv_gts g38))) (hRS10.knd (show lv G 0 (15 + e) from (lv_gts g38))) (Nat.le_of_ble_eq_true rfl) (Nat.le_of_ble_eq_true rfl) (by show (6 + 1) + 1 ≤ 8; omega) (by show (1140 + 5) + 898 ≤ 2043; omega) (by simp [Value.category]) (by decide +kernel) rfl (fun v Z11 q9 => ?_)
        obtain ⟨rfl, t9, M9, hL9⟩ := q9
        have hr9 := RA.gotten (e := e) (op := op) hRS10 g38 g13 g6 hS10.2 (fun i hi z => hq5 (by rw [← z]; exact hS3.mem hi)) hL9
        obtain ⟨ay7, hay⟩ := gt_8 (ax := ax) (ay := ay2) (p := 600 * e + tn G 37 e) (i0 := 15 + e) (q := q5) (t := t9) (M := M9)
        rw [hay] at hr9
        refine V.eq (S' := Z11) (ls' := [some (.ref (ax 5 e)), some (.ref (ax 6 op)), some (.int (nI (k)))]) (st' := [.int (nI (1))]) rfl rfl rfl ?_
        refine V.blk h [(.pop, 1)] (by decide +kernel) (pc' := 77) (ls' := [some (.ref (ax 5 e)), some (.ref (ax 6 op)), some (.int (nI (k)))]) (st' := []) rfl rfl (Nat.le_of_ble_eq_true rfl) ?_
        exact V.vret h hA hr (hp _ _ (by unfold waC; rw [if_neg (by rw [← gw, show tn A 37 e = k from by omega, inv6]; decide), ← hG]; have z := hr9; rw [g26, g29, g3, g8] at z; exact z)) (by decide +kernel) (by omega) (by omega)
      · have q14_39 : ¬ _ := (fun z => q ((nI_leI (by omega) (by omega)).mpr z))
        clear q
        refine V.blk h [(.aload_n 0, 1)] (by decide +kernel) (pc' := 18) (ls' := [some (.ref (ax 5 e)), some (.ref (ax 6 op)), some (.int (nI (k)))]) (st' := [.ref (ax 5 e)]) rfl rfl (Nat.le_of_ble_eq_true rfl) ?_
        refine V.getP h cls_5 (j := 4) rfl (hS3.mem (show lv G 5 e from g38)) (hS3.knd (show lv G 5 e from g38)) (Or.inl wf_RX5_29) (by decide +kernel) (v := some (ax 0 (15 + e))) (hS3.ptr (show lv G 5 e from g38) (by decide) (by decide) rfl) ?_
        refine V.eq (S' := Z1) (ls' := [some (.ref (ax 5 e)), some (.ref (ax 6 op)), some (.int (nI (k)))]) (st' := [.ref (ax 0 (15 + e))]) rfl rfl rfl ?_
        refine V.blk h [(.iload_n 2, 1)] (by decide +kernel) (pc' := 22) (ls' := [some (.ref (ax 5 e)), some (.ref (ax 6 op)), some (.int (nI (k)))]) (st' := [.int (nI (k)), .ref (ax 0 (15 + e))]) rfl rfl (Nat.le_of_ble_eq_true rfl) ?_
        refine V.callV h (np := 1) (st := []) (g_gts hls hS3 g38 (k := k) (by omega) (post := fun v S7 => v = some (.ref (ay2 8 (600 * e + k))) ∧ Z1 = S7) ⟨rfl, rfl⟩) wc_Jx4a65c_get_915e3 wn_RJx4a65c (Or.inl wm_RX5_62) wi_Jx4a65c_get_915e3 we_Jx4a65c_get_915e3 (by decide +kernel) rfl cls_0 (hS3.mem (show lv G 0 (15 + e) from (lv_gts g38))) (hS3.knd (show lv G 0 (15 + e) from (lv_gts g38))) (Nat.le_of_ble_eq_true rfl) (Nat.le_of_ble_eq_true rfl) (by show 6 + 0 ≤ 8; omega) (by show 1140 + 0 ≤ 2043; omega) (by simp [Value.category]) (by decide +kernel) rfl (fun v Z12 q9 => ?_)
        obtain ⟨rfl, hS9⟩ := q9
        subst hS9
        refine V.eq (S' := Z1) (ls' := [some (.ref (ax 5 e)), some (.ref (ax 6 op)), some (.int (nI (k)))]) (st' := [.ref (ay2 8 (600 * e + k))]) rfl rfl rfl ?_
        refine V.castS h cls_8 (hS3.mem (show lv G 8 (600 * e + k) from (lv_get hS3 g38 (by omega)))) (hS3.knd (show lv G 8 (600 * e + k) from (lv_get hS3 g38 (by omega)))) wl_RX5_154 (by decide +kernel) ?_
        refine V.getP h cls_8 (j := 0) rfl (hS3.mem (show lv G 8 (600 * e + k) from (lv_get hS3 g38 (by omega)))) (hS3.knd (show lv G 8 (600 * e + k) from (lv_get hS3 g38 (by omega)))) (Or.inr ⟨_, wf_RX5_156⟩) (by decide +kernel) (v := some (ax 6 (tn G 33 (600 * e + k)))) (hS3.ptr (show lv G 8 (600 * e + k) from (lv_get hS3 g38 (by omega))) (by decide) (by decide) rfl) ?_
        refine V.eq (S' := Z1) (ls' := [some (.ref (ax 5 e)), some (.ref (ax 6 op)), some (.int (nI (k)))]) (st' := [.ref (ax 6 (tn G 33 (600 * e + k)))]) rfl rfl rfl ?_
        refine V.blk h [(.aload_n 1, 1)] (by decide +kernel) (pc' := 32) (ls' := [some (.ref (ax 5 e)), some (.ref (ax 6 op)), some (.int (nI (k)))]) (st' := [.ref (ax 6 op), .ref (ax 6 (tn G 33 (600 * e + k)))]) rfl rfl (Nat.le_of_ble_eq_true rfl) ?_
        refine V.acmp_ne h (rx := some (ax 6 (tn G 33 (600 * e + k)))) (ry := some (ax 6 op)) (off := 4) (by decide +kernel) (tgt := 36) (by decide) (fun q => ?_) (fun q => ?_)
        · have q32_89 : ¬ _ := (fun z => q ((hS3.opeq (hS3.gop g38 (by omega)) g13).mpr z))
          clear q
          refine V.incN h (x := k) (i := 2) (by decide +kernel) rfl (Nat.le_of_ble_eq_true rfl) ?_
          refine V.eqL (ls' := [some (.ref (ax 5 e)), some (.ref (ax 6 op)), some (.int (nI (k + 1)))]) rfl ?_
          refine V.goto h (off := -33) (tgt := 6) (by decide +kernel) (by decide) ?_
          refine V.eqL (ls' := [some (.ref (ax 5 e)), some (.ref (ax 6 op)), some (.int (nI ((k + 1))))]) rfl ?_
          exact ih6 (tn G 37 e - (k + 1)) (by omega) (k + 1) rfl (by omega) (by unfold wfL; rw [inv6, decide_eq_false q32_89]; rfl)
        · have q32_89 := ((hS3.opeq (hS3.gop g38 (by omega)) g13).mp q)
          clear q
          exact V.vret h hA hr (hp _ _ (by unfold waC; rw [if_pos (by rw [← gw]; exact wf_true (k := k) q32_89 (by omega)), ← hG]; exact hS3)) (by decide +kernel) (by omega) (by omega)
  refine V.eqL (ls' := [some (.ref (ax 5 e)), some (.ref (ax 6 op)), some (.int (nI (0)))]) rfl ?_
  exact loop6 _ 0 rfl (Nat.zero_le _) rfl
