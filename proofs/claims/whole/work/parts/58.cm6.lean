/-! ===== a master's log grows ===== -/
theorem aS3 (ax ay : Nat → Nat → Nat) (p i0 q t M : Nat) : ∃ ax1 ay1 : Nat → Nat → Nat, (∀ g, g ≠ 3 → ax1 g = ax g) ∧ ax1 3 p = q ∧ (∀ j, ay1 50 j = if j = i0 then M else ay 50 j) ∧ aS (mx ax ay) 3 p i0 q t M = mx ax1 ay1 := by
  refine ⟨fun g i => if g = 3 ∧ i = p then q else ax g i, aS (mx ax ay) 3 p i0 q t M, fun g hg => ?_, if_pos ⟨rfl, rfl⟩, fun j => aS_50 (by decide), ?_⟩
  · funext i
    exact if_neg (fun z => hg z.1)
  · funext g i
    by_cases h4 : g = 4
    · subst h4; rfl
    by_cases h8 : g = 8
    · subst h8; rfl
    by_cases h23 : g = 23
    · subst h23; rfl
    by_cases h50 : g = 50
    · subst h50; rfl
    have e : ∀ bx by' : Nat → Nat → Nat, mx bx by' g i = bx g i := fun bx by' => by
      unfold mx
      split <;> first | rfl | contradiction
    rw [e]
    unfold aS
    rw [e]
    by_cases y : g = 3 ∧ i = p
    · rw [if_pos y, if_pos y]
    · rw [if_neg y, if_neg y, if_neg (fun z => h23 z.1), if_neg (fun z => h50 z.1)]
def apV (A : TS) (e op : Nat) : Int32 := if tn A 7 op = 0 then tr A 3 (16 * e + tn A 8 op) else tr A 3 (16 * e + tn A 8 op) + tr A 9 op
def apC (A : TS) (e op : Nat) (late : Bool) : TS := sr (apG A e op (apV A e op) late) 3 (16 * e + tn A 8 op) (if tn A 7 op = 0 then tr A 9 op else tr A 3 (16 * e + tn A 8 op) + tr A 9 op)
def nxL (A : TS) (e M : Nat) : Nat := if tn A 26 e = M then gcap M else M
theorem app_NB2 {K : Nat} {A : TS} {e op : Nat} {x : Int32} {b : Bool} (h : NB K A) (ho : op ≤ K + 1) (hm : tn A 26 e + 1 ≤ K + 1) : NB (K + 1) (apG A e op x b) := (((((h.mono (by omega)).sn ho).sr).sb).sb).sn hm
set_option maxRecDepth 100000 in
set_option maxHeartbeats 4000000 in
theorem c_append {l : Launch} {D : va_G} {tc : Nat → ClassId} {ax ay : Nat → Nat → Nat} {A : TS} {S : HS} (hls : l.stackTraces = false) (hS : RA tc (mx ax ay) A S) {e : Nat} {op : Nat} {late : Bool} {ms : Nat} {K : Nat}  (he : e < tf A 38) (ho : op < tf A 13) (hk16 : tn A 8 op < 16) (hn6 : tn A 26 e < 600) (hms : tn A 26 e = ay 50 (3 + e) → gcap (ay 50 (3 + e)) ≤ ms) (h9 : 700 ≤ K) (hB : NB K A) (hK : K < 1900000000) {post : Option Value → HS → Prop} (hp : ∀ (S8 : HS) (ax8 ay8 : Nat → Nat → Nat), (∀ g, g ≠ 3 → ax8 g = ax g) → (∀ j, ay8 50 j = if j = 3 + e then nxL A e (ay 50 (3 + e)) else ay 50 j) → RA tc (mx ax8 ay8) (apC A e op late) S8 → post (some (.ref (ax8 3 (600 * e + tn A 26 e)))) S8) : CM l D tc yX5_append cX5_append 5 (some (.object "OneTrip$Entry")) 7 2 (4 + ms) [.ref (ax 5 e), .ref (ax 6 op), .int (bI (late))] S post := by
  refine CM.of hls (by decide +kernel) (by simp [Value.category]) (Nat.le_of_ble_eq_true rfl) (fun A0 p e9 s m args below meth c sz h hr hnm hA => ?_)
  have h12 := hS.2.2.2.1.2.1
  have h13 := hS.2.2.2.1.2.2.2.1
  refine V.eqL (ls' := [some (.ref (ax 5 e)), some (.ref (ax 6 op)), some (.int (bI (late))), none, none]) rfl ?_
  refine V.blk h [(.aload_n 0, 1), (.aload_n 1, 1)] (by decide +kernel) (pc' := 2) (ls' := [some (.ref (ax 5 e)), some (.ref (ax 6 op)), some (.int (bI (late))), none, none]) (st' := [.ref (ax 6 op), .ref (ax 5 e)]) rfl rfl (Nat.le_of_ble_eq_true rfl) ?_
  refine V.getI h cls_6 (j := 3) rfl (hS.mem (show lv A 6 op from ho)) (hS.knd (show lv A 6 op from ho)) (Or.inr ⟨_, wf_RX5_94⟩) (by decide +kernel) (v := nI (tn A 8 op)) (hS.int (show lv A 6 op from ho) (by decide) (by decide) rfl) ?_
  have nb5 := hB.2 8 op
  refine V.callV h (np := 1) (st := []) (c_valueOf hls hS (e := e) (ky := tn A 8 op) he (by omega) (post := fun v S7 => v = some (.int (tr A 3 (16 * e + (tn A 8 op)))) ∧ S = S7) ⟨rfl, rfl⟩) wc_X5_valueOf wn_RX5 (Or.inl wm_RX5_99) wi_X5_valueOf we_X5_valueOf (by decide +kernel) rfl cls_5 (hS.mem (show lv A 5 e from he)) (hS.knd (show lv A 5 e from he)) (Nat.le_of_ble_eq_true rfl) (Nat.le_of_ble_eq_true rfl) (Nat.zero_le _) (Nat.zero_le _) (by simp [Value.category]) (by decide +kernel) rfl (fun v Z1 q9 => ?_)
  obtain ⟨rfl, hS9⟩ := q9
  subst hS9
  refine V.eq (S' := S) (ls' := [some (.ref (ax 5 e)), some (.ref (ax 6 op)), some (.int (bI (late))), none, none]) (st' := [.int (tr A 3 (16 * e + (tn A 8 op)))]) rfl rfl rfl ?_
  refine V.blk h [(.istore_n 3, 1)] (by decide +kernel) (pc' := 9) (ls' := [some (.ref (ax 5 e)), some (.ref (ax 6 op)), some (.int (bI (late))), some (.int (tr A 3 (16 * e + (tn A 8 op)))), none]) (st' := []) rfl rfl (Nat.le_of_ble_eq_true rfl) ?_
  refine V.new h cls_3 wl_RX5_66 wz_RX3 wn_RX3 (by show 0 + 1 ≤ 2; omega) (by show 0 + 4 ≤ 4 + ms; omega) (by decide +kernel) (fun q2 hq2 => ?_)
  have hn3 := hS.ext (hext.rfl.newO (k := 3) hq2)
  refine V.blk h [(.dup, 1), (.aload_n 1, 1), (.aload_n 1, 1), (.iload_n 3, 1)] (by decide +kernel) (pc' := 16) (ls' := [some (.ref (ax 5 e)), some (.ref (ax 6 op)), some (.int (bI (late))), some (.int (tr A 3 (16 * e + (tn A 8 op)))), none]) (st' := [.int (tr A 3 (16 * e + (tn A 8 op))), .ref (ax 6 op), .ref (ax 6 op), .ref q2, .ref q2]) rfl rfl (Nat.le_of_ble_eq_true rfl) ?_
  refine V.callV h (np := 1) (st := [.ref (ax 6 op), .ref q2, .ref q2]) (c_answerAfter hls hn3 (op := op) (x := tr A 3 (16 * e + (tn A 8 op))) ho hB (by omega) (post := fun v S7 => v = some (.int (if tn A 7 op = 0 then tr A 3 (16 * e + (tn A 8 op)) else (tr A 3 (16 * e + (tn A 8 op))) + tr A 9 op)) ∧ (newO S q2 3) = S7) ⟨rfl, rfl⟩) wc_X6_answerAfter wn_RX6 (Or.inr ⟨_, wm_RX5_103⟩) wi_X6_answerAfter we_X6_answerAfter (by decide +kernel) rfl cls_6 (hn3.mem (show lv A 6 op from ho)) (hn3.knd (show lv A 6 op from ho)) (Nat.le_of_ble_eq_true rfl) (Nat.le_of_ble_eq_true rfl) (by show 1 + 0 ≤ 2; omega) (by show 4 + 0 ≤ 4 + ms; omega) (by simp [Value.category]) (by decide +kernel) rfl (fun v Z4 q9 => ?_)
  obtain ⟨rfl, hS9⟩ := q9
  subst hS9
  refine V.eq (S' := (newO S q2 3)) (ls' := [some (.ref (ax 5 e)), some (.ref (ax 6 op)), some (.int (bI (late))), some (.int (tr A 3 (16 * e + (tn A 8 op)))), none]) (st' := [.int (if tn A 7 op = 0 then tr A 3 (16 * e + (tn A 8 op)) else (tr A 3 (16 * e + (tn A 8 op))) + tr A 9 op), .ref (ax 6 op), .ref q2, .ref q2]) rfl rfl rfl ?_
  refine V.blk h [(.iload_n 2, 1)] (by decide +kernel) (pc' := 20) (ls' := [some (.ref (ax 5 e)), some (.ref (ax 6 op)), some (.int (bI (late))), some (.int (tr A 3 (16 * e + (tn A 8 op)))), none]) (st' := [.int (bI (late)), .int (if tn A 7 op = 0 then tr A 3 (16 * e + (tn A 8 op)) else (tr A 3 (16 * e + (tn A 8 op))) + tr A 9 op), .ref (ax 6 op), .ref q2, .ref q2]) rfl rfl (Nat.le_of_ble_eq_true rfl) ?_
  refine V.callI h (np := 3) (st := [.ref q2]) (c_init3 hls (q := q2) (o := ax 6 op) (x := if tn A 7 op = 0 then tr A 3 (16 * e + (tn A 8 op)) else (tr A 3 (16 * e + (tn A 8 op))) + tr A 9 op) (la := late) (show q2 ∈ zL (newO S q2 3) from List.mem_append_right _ (List.mem_singleton.mpr rfl)) (show zK (newO S q2 3) q2 = 3 from va_up_self _ _ _) (post := fun v S7 => v = none ∧ _ = S7) ⟨rfl, rfl⟩) wc_X3_init wn_RX3 (Or.inr ⟨_, wm_RX5_106⟩) wi_X3_init rfl (by decide +kernel) rfl (Nat.le_of_ble_eq_true rfl) (Nat.le_of_ble_eq_true rfl) (by show 1 + 0 ≤ 2; omega) (by show 4 + 0 ≤ 4 + ms; omega) (by simp [Value.category]) (by decide +kernel) rfl (fun v Z5 q9 => ?_)
  obtain ⟨rfl, hq9⟩ := q9
  refine V.gen (P := fun S7 => hext S S7 ∧ ET S7 q2 (ax 6 op) (if tn A 7 op = 0 then tr A 3 (16 * e + (tn A 8 op)) else (tr A 3 (16 * e + (tn A 8 op))) + tr A 9 op) late false) (hq9 ▸ new3 hq2) (fun S6 hS6 => ?_)
  clear hq9
  have hRS6 := hS.ext hS6.1
  refine V.blk h [(.astore 4, 2), (.aload_n 0, 1)] (by decide +kernel) (pc' := 26) (ls' := [some (.ref (ax 5 e)), some (.ref (ax 6 op)), some (.int (bI (late))), some (.int (tr A 3 (16 * e + (tn A 8 op)))), some (.ref q2)]) (st' := [.ref (ax 5 e)]) rfl rfl (Nat.le_of_ble_eq_true rfl) ?_
  refine V.getP h cls_5 (j := 3) rfl (hRS6.mem (show lv A 5 e from he)) (hRS6.knd (show lv A 5 e from he)) (Or.inl wf_RX5_25) (by decide +kernel) (v := some (ax 0 (3 + e))) (hRS6.ptr (show lv A 5 e from he) (by decide) (by decide) rfl) ?_
  refine V.eq (S' := S6) (ls' := [some (.ref (ax 5 e)), some (.ref (ax 6 op)), some (.int (bI (late))), some (.int (tr A 3 (16 * e + (tn A 8 op)))), some (.ref q2)]) (st' := [.ref (ax 0 (3 + e))]) rfl rfl rfl ?_
  refine V.blk h [(.aload 4, 2)] (by decide +kernel) (pc' := 31) (ls' := [some (.ref (ax 5 e)), some (.ref (ax 6 op)), some (.int (bI (late))), some (.int (tr A 3 (16 * e + (tn A 8 op)))), some (.ref q2)]) (st' := [.ref q2, .ref (ax 0 (3 + e))]) rfl rfl (Nat.le_of_ble_eq_true rfl) ?_
  refine V.callV h (np := 1) (st := []) (l_add hls hRS6 (i := 3 + e) (q := q2) (mc := 1) (ms := ms) (lv_log he h12) (by rw [lsz_l (by omega)]; exact hn6) hS6.2.1 (by rw [lfam_l (by omega)]; exact hS6.2.2.1) (fun _ => Nat.le_refl _) (fun z => hms (by rw [lsz_l (by omega)] at z; exact z)) (post := fun v S7 => v = some (.int (nI 1)) ∧ ∃ t9 M9, LAdd tc (mx ax ay) A S6 (3 + e) q2 S7 t9 M9) (fun S7 t9 M9 h9 => ⟨rfl, t9, M9, h9⟩)) wc_Jx4a65c_add_9ea2d wn_RJx4a65c (Or.inl wm_RX5_109) wi_Jx4a65c_add_9ea2d we_Jx4a65c_add_9ea2d (by decide +kernel) rfl cls_0 (hRS6.mem (show lv A 0 (3 + e) from (lv_log he hRS6.2.2.2.1.2.1))) (hRS6.knd (show lv A 0 (3 + e) from (lv_log he hRS6.2.2.2.1.2.1))) (Nat.le_of_ble_eq_true rfl) (Nat.le_of_ble_eq_true rfl) (by show 1 + 1 ≤ 2; omega) (by show 4 + ms ≤ 4 + ms; omega) (by simp [Value.category]) (by decide +kernel) rfl (fun v Z7 q9 => ?_)
  obtain ⟨rfl, t9, M9, hL9⟩ := q9
  have hr9 := RA.apped (e := e) (op := op) hRS6 he ho hn6 hS6.2 (fun i hi z => hq2 (by rw [← z]; exact hS.mem hi)) hL9
  have hM9 : M9 = nxL A e (ay 50 (3 + e)) := by
    have z := hL9.2.2.2.2.2
    rw [lsz_l (by omega)] at z
    exact z
  obtain ⟨ax1, ay1, hx1, hx3, hc1, hax⟩ := aS3 ax ay (600 * e + tn A 26 e) (3 + e) q2 t9 M9
  rw [hax] at hr9
  replace hr9 : RA tc (mx ax1 ay1) (apG A e op (apV A e op) late) Z7 := hr9
  obtain ⟨G, hG⟩ : ∃ X9 : TS, X9 = (apG A e op (apV A e op) late) := ⟨_, rfl⟩
  rw [← hG] at hr9
  have grow := apG_row (A := A) (e := e) (op := op) (ans := apV A e op) (late := late)
  rw [← hG] at grow
  obtain ⟨w1, w2, w3, w4, -⟩ := grow
  have g7 : tn G 7 op = tn A 7 op := w2 7 op (by omega) (by omega)
  have g8 : tn G 8 op = tn A 8 op := w2 8 op (by omega) (by omega)
  have g9 : tr G 9 op = tr A 9 op := w3 9 op (by omega)
  have g38 : e < tf G 38 := by rw [w1]; exact he
  have g13 : op < tf G 13 := by rw [w1]; exact ho
  have g16 : tn G 8 op < 16 := by rw [g8]; exact hk16
  have hBG : NB (K + 1) G := by rw [hG]; exact app_NB2 hB (by omega) (by have := hB.2 26 e; omega)
  have hKG : K + 1 < 2000000000 := by omega
  refine V.eq (S' := Z7) (ls' := [some (.ref (ax1 5 e)), some (.ref (ax1 6 op)), some (.int (bI (late))), some (.int (tr A 3 (16 * e + (tn A 8 op)))), some (.ref (ax1 3 (600 * e + tn A 26 e)))]) (st' := [.int (nI (1))]) rfl (by rw [hx3, hx1 5 (by decide), hx1 6 (by decide)]) rfl ?_
  refine V.blk h [(.pop, 1), (.aload_n 1, 1)] (by decide +kernel) (pc' := 36) (ls' := [some (.ref (ax1 5 e)), some (.ref (ax1 6 op)), some (.int (bI (late))), some (.int (tr A 3 (16 * e + (tn A 8 op)))), some (.ref (ax1 3 (600 * e + tn A 26 e)))]) (st' := [.ref (ax1 6 op)]) rfl rfl (Nat.le_of_ble_eq_true rfl) ?_
  refine V.getI h cls_6 (j := 3) rfl (hr9.mem (show lv G 6 op from g13)) (hr9.knd (show lv G 6 op from g13)) (Or.inr ⟨_, wf_RX5_94⟩) (by decide +kernel) (v := nI (tn G 8 op)) (hr9.int (show lv G 6 op from g13) (by decide) (by decide) rfl) ?_
  refine V.if_lt h (off := 29) (by decide +kernel) (tgt := 68) (by decide) (fun q => ?_) (fun q => ?_)
  · have q39_54 := ((nI_z_lt (by omega)).mp q)
    clear q
    exact absurd q39_54 id
  · have q39_54 : ¬ _ := (fun z => q ((nI_z_lt (by omega)).mpr z))
    clear q
    refine V.blk h [(.aload_n 1, 1)] (by decide +kernel) (pc' := 43) (ls' := [some (.ref (ax1 5 e)), some (.ref (ax1 6 op)), some (.int (bI (late))), some (.int (tr A 3 (16 * e + (tn A 8 op)))), some (.ref (ax1 3 (600 * e + tn A 26 e)))]) (st' := [.ref (ax1 6 op)]) rfl rfl (Nat.le_of_ble_eq_true rfl) ?_
    refine V.getI h cls_6 (j := 3) rfl (hr9.mem (show lv G 6 op from g13)) (hr9.knd (show lv G 6 op from g13)) (Or.inr ⟨_, wf_RX5_94⟩) (by decide +kernel) (v := nI (tn G 8 op)) (hr9.int (show lv G 6 op from g13) (by decide) (by decide) rfl) ?_
    refine V.blk h [(.aload_n 0, 1)] (by decide +kernel) (pc' := 47) (ls' := [some (.ref (ax1 5 e)), some (.ref (ax1 6 op)), some (.int (bI (late))), some (.int (tr A 3 (16 * e + (tn A 8 op)))), some (.ref (ax1 3 (600 * e + tn A 26 e)))]) (st' := [.ref (ax1 5 e), .int (nI (tn G 8 op))]) rfl rfl (Nat.le_of_ble_eq_true rfl) ?_
    refine V.getP h cls_5 (j := 5) rfl (hr9.mem (show lv G 5 e from g38)) (hr9.knd (show lv G 5 e from g38)) (Or.inl wf_RX5_32) (by decide +kernel) (v := some (ax1 20 (2 * e))) (hr9.ptr (show lv G 5 e from g38) (by decide) (by decide) rfl) ?_
    refine V.eq (S' := Z7) (ls' := [some (.ref (ax1 5 e)), some (.ref (ax1 6 op)), some (.int (bI (late))), some (.int (tr A 3 (16 * e + (tn A 8 op)))), some (.ref (ax1 3 (600 * e + tn A 26 e)))]) (st' := [.ref (ax1 20 (2 * e)), .int (nI (tn G 8 op))]) rfl rfl rfl ?_
    refine V.alen h 20 (hr9.mem (show lv G 20 (2 * e) from (by have := g38; show 2 * e < 2 * tf G 38; omega))) (hr9.knd (show lv G 20 (2 * e) from (by have := g38; show 2 * e < 2 * tf G 38; omega))) (by decide) (M := 16) ((hr9.len (show lv G 20 (2 * e) from (by have := g38; show 2 * e < 2 * tf G 38; omega)) (by decide)).trans cln_v) (by decide +kernel) ?_
    refine V.icmp_ge h (off := 17) (by decide +kernel) (tgt := 68) (by decide) (fun q => ?_) (fun q => ?_)
    · have q51_66 := ((nI_leI (by omega) (by omega)).mp q)
      clear q
      omega
    · have q51_66 : ¬ _ := (fun z => q ((nI_leI (by omega) (by omega)).mpr z))
      clear q
      refine V.blk h [(.aload_n 0, 1)] (by decide +kernel) (pc' := 55) (ls' := [some (.ref (ax1 5 e)), some (.ref (ax1 6 op)), some (.int (bI (late))), some (.int (tr A 3 (16 * e + (tn A 8 op)))), some (.ref (ax1 3 (600 * e + tn A 26 e)))]) (st' := [.ref (ax1 5 e)]) rfl rfl (Nat.le_of_ble_eq_true rfl) ?_
      refine V.getP h cls_5 (j := 5) rfl (hr9.mem (show lv G 5 e from g38)) (hr9.knd (show lv G 5 e from g38)) (Or.inl wf_RX5_32) (by decide +kernel) (v := some (ax1 20 (2 * e))) (hr9.ptr (show lv G 5 e from g38) (by decide) (by decide) rfl) ?_
      refine V.eq (S' := Z7) (ls' := [some (.ref (ax1 5 e)), some (.ref (ax1 6 op)), some (.int (bI (late))), some (.int (tr A 3 (16 * e + (tn A 8 op)))), some (.ref (ax1 3 (600 * e + tn A 26 e)))]) (st' := [.ref (ax1 20 (2 * e))]) rfl rfl rfl ?_
      refine V.blk h [(.aload_n 1, 1)] (by decide +kernel) (pc' := 59) (ls' := [some (.ref (ax1 5 e)), some (.ref (ax1 6 op)), some (.int (bI (late))), some (.int (tr A 3 (16 * e + (tn A 8 op)))), some (.ref (ax1 3 (600 * e + tn A 26 e)))]) (st' := [.ref (ax1 6 op), .ref (ax1 20 (2 * e))]) rfl rfl (Nat.le_of_ble_eq_true rfl) ?_
      refine V.getI h cls_6 (j := 3) rfl (hr9.mem (show lv G 6 op from g13)) (hr9.knd (show lv G 6 op from g13)) (Or.inr ⟨_, wf_RX5_94⟩) (by decide +kernel) (v := nI (tn G 8 op)) (hr9.int (show lv G 6 op from g13) (by decide) (by decide) rfl) ?_
      refine V.blk h [(.aload_n 1, 1), (.iload_n 3, 1)] (by decide +kernel) (pc' := 64) (ls' := [some (.ref (ax1 5 e)), some (.ref (ax1 6 op)), some (.int (bI (late))), some (.int (tr A 3 (16 * e + (tn A 8 op)))), some (.ref (ax1 3 (600 * e + tn A 26 e)))]) (st' := [.int (tr A 3 (16 * e + (tn A 8 op))), .ref (ax1 6 op), .int (nI (tn G 8 op)), .ref (ax1 20 (2 * e))]) rfl rfl (Nat.le_of_ble_eq_true rfl) ?_
      refine V.callV h (np := 1) (st := [.int (nI (tn G 8 op)), .ref (ax1 20 (2 * e))]) (c_valueAfter hls hr9 (op := op) (x := tr A 3 (16 * e + (tn A 8 op))) g13 hBG (by omega) (post := fun v S7 => v = some (.int (if tn G 7 op = 0 then tr G 9 op else (tr A 3 (16 * e + (tn A 8 op))) + tr G 9 op)) ∧ Z7 = S7) ⟨rfl, rfl⟩) wc_X6_valueAfter wn_RX6 (Or.inr ⟨_, wm_RX5_113⟩) wi_X6_valueAfter we_X6_valueAfter (by decide +kernel) rfl cls_6 (hr9.mem (show lv G 6 op from g13)) (hr9.knd (show lv G 6 op from g13)) (Nat.le_of_ble_eq_true rfl) (Nat.le_of_ble_eq_true rfl) (by show (1 + 1) + 0 ≤ 2; omega) (by show (4 + ms) + 0 ≤ 4 + ms; omega) (by simp [Value.category]) (by decide +kernel) rfl (fun v Z8 q9 => ?_)
      obtain ⟨rfl, hS9⟩ := q9
      subst hS9
      refine V.eq (S' := Z7) (ls' := [some (.ref (ax1 5 e)), some (.ref (ax1 6 op)), some (.int (bI (late))), some (.int (tr A 3 (16 * e + (tn A 8 op)))), some (.ref (ax1 3 (600 * e + tn A 26 e)))]) (st' := [.int (if tn G 7 op = 0 then tr G 9 op else (tr A 3 (16 * e + (tn A 8 op))) + tr G 9 op), .int (nI (tn G 8 op)), .ref (ax1 20 (2 * e))]) rfl rfl rfl ?_
      refine V.iast h (hr9.mem (show lv G 20 (2 * e) from (by have := g38; show 2 * e < 2 * tf G 38; omega))) (hr9.knd (show lv G 20 (2 * e) from (by have := g38; show 2 * e < 2 * tf G 38; omega))) (M := 16) ((hr9.len (show lv G 20 (2 * e) from (by have := g38; show 2 * e < 2 * tf G 38; omega)) (by decide)).trans cln_v) (i := tn G 8 op) (by omega) (by omega) (by decide +kernel) ?_
      refine V.gen (P := fun S9 => RA tc (mx ax1 ay1) (sr G 3 (16 * e + tn G 8 op) (if tn G 7 op = 0 then tr G 9 op else (tr A 3 (16 * e + (tn A 8 op))) + tr G 9 op)) S9) (hr9.p_val (v := if tn G 7 op = 0 then tr G 9 op else (tr A 3 (16 * e + (tn A 8 op))) + tr G 9 op) g38 g16) (fun S9 hS9 => ?_)
      refine V.blk h [(.aload 4, 2)] (by decide +kernel) (pc' := 70) (ls' := [some (.ref (ax1 5 e)), some (.ref (ax1 6 op)), some (.int (bI (late))), some (.int (tr A 3 (16 * e + (tn A 8 op)))), some (.ref (ax1 3 (600 * e + tn A 26 e)))]) (st' := [.ref (ax1 3 (600 * e + tn A 26 e))]) rfl rfl (Nat.le_of_ble_eq_true rfl) ?_
      exact V.aret h hA hr (o := some (ax1 3 (600 * e + tn A 26 e))) (Or.inl ⟨_, rfl⟩) (hp _ _ _ hx1 (by rw [← hM9]; exact hc1) (by have z := hS9; rw [g7, g8, g9] at z; unfold apC; rw [← hG]; exact z)) (by decide +kernel) (by omega) (by omega)
