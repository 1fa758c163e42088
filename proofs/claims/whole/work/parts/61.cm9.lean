/-! ===== a request at a master, whole ===== -/
def rexC (A : TS) (e op : Nat) : TS := if placeF A e op ≠ 0 then agnF A e (placeF A e op - 1) else if hgF A e op (tn A 26 e) = true then A else if tn A 7 op = 2 then waC A e op else exeC A e op
set_option maxRecDepth 100000 in
set_option maxHeartbeats 4000000 in
theorem c_readExec {l : Launch} {D : va_G} {tc : Nat → ClassId} {ax ay : Nat → Nat → Nat} {A : TS} {S : HS} (hls : l.stackTraces = false) (hS : RA tc (mx ax ay) A S) {e : Nat} {op : Nat} {K : Nat}  (he : e < tf A 38) (ho : op < tf A 13) (hk16 : tn A 8 op < 16) (hL : LogOK A e) (hsy : tn A 28 e ≤ tn A 26 e) (hg6 : tn A 37 e < 600) (h9 : 700 ≤ K) (hB : NB K A) (hK : K < 1900000000) {post : Option Value → HS → Prop} (hp : ∀ (S8 : HS) (ax8 ay8 : Nat → Nat → Nat), (∀ g, g ≠ 3 → ax8 g = ax g) → RA tc (mx ax8 ay8) (rexC A e op) S8 → post none S8) : CM l D tc yX5_readExec cX5_readExec 3 (none) 10 10 2422 [.ref (ax 5 e), .ref (ax 6 op)] S post := by
  refine CM.of hls (by decide +kernel) (by simp [Value.category]) (Nat.le_of_ble_eq_true rfl) (fun A0 p e9 s m args below meth c sz h hr hnm hA => ?_)
  have h12 := hS.2.2.2.1.2.1
  have h13 := hS.2.2.2.1.2.2.2.1
  have h600 := hS.2.2.2.2.1 e he
  have hple := placeF_le A e op
  have hbple := hB.2 26 e
  refine V.eqL (ls' := [some (.ref (ax 5 e)), some (.ref (ax 6 op)), none]) rfl ?_
  refine V.blk h [(.aload_n 0, 1), (.aload_n 1, 1)] (by decide +kernel) (pc' := 2) (ls' := [some (.ref (ax 5 e)), some (.ref (ax 6 op)), none]) (st' := [.ref (ax 6 op), .ref (ax 5 e)]) rfl rfl (Nat.le_of_ble_eq_true rfl) ?_
  refine V.callV h (np := 1) (st := []) (c_placeOf hls hS (e := e) (op := op) he ho hL hB (by omega) (post := fun v S7 => v = some (.int (oI (placeF A e op))) ∧ S = S7) ⟨rfl, rfl⟩) wc_X5_placeOf wn_RX5 (Or.inl wm_RX5_86) wi_X5_placeOf we_X5_placeOf (by decide +kernel) rfl cls_5 (hS.mem (show lv A 5 e from he)) (hS.knd (show lv A 5 e from he)) (Nat.le_of_ble_eq_true rfl) (Nat.le_of_ble_eq_true rfl) (Nat.zero_le _) (Nat.zero_le _) (by simp [Value.category]) (by decide +kernel) rfl (fun v Z1 q9 => ?_)
  obtain ⟨rfl, hS9⟩ := q9
  subst hS9
  refine V.eq (S' := S) (ls' := [some (.ref (ax 5 e)), some (.ref (ax 6 op)), none]) (st' := [.int (oI (placeF A e op))]) rfl rfl rfl ?_
  refine V.blk h [(.istore_n 2, 1), (.iload_n 2, 1)] (by decide +kernel) (pc' := 7) (ls' := [some (.ref (ax 5 e)), some (.ref (ax 6 op)), some (.int (oI (placeF A e op)))]) (st' := [.int (oI (placeF A e op))]) rfl rfl (Nat.le_of_ble_eq_true rfl) ?_
  refine V.if_lt h (off := 11) (by decide +kernel) (tgt := 18) (by decide) (fun q => ?_) (fun q => ?_)
  · have q7_12 := ((oI_neg (by omega)).mp q)
    clear q
    have q7_12n : ¬ placeF A e op ≠ 0 := fun z => z q7_12
    refine V.blk h [(.aload_n 0, 1), (.aload_n 1, 1)] (by decide +kernel) (pc' := 20) (ls' := [some (.ref (ax 5 e)), some (.ref (ax 6 op)), some (.int (oI (placeF A e op)))]) (st' := [.ref (ax 6 op), .ref (ax 5 e)]) rfl rfl (Nat.le_of_ble_eq_true rfl) ?_
    refine V.callV h (np := 1) (st := []) (c_hasLater hls hS (e := e) (op := op) he ho hB (by omega) (post := fun v S7 => v = some (.int (bI (hgF A e op (tn A 26 e)))) ∧ S = S7) ⟨rfl, rfl⟩) wc_X5_hasLaterOneThan wn_RX5 (Or.inl wm_RX5_90) wi_X5_hasLaterOneThan we_X5_hasLaterOneThan (by decide +kernel) rfl cls_5 (hS.mem (show lv A 5 e from he)) (hS.knd (show lv A 5 e from he)) (Nat.le_of_ble_eq_true rfl) (Nat.le_of_ble_eq_true rfl) (Nat.zero_le _) (Nat.zero_le _) (by simp [Value.category]) (by decide +kernel) rfl (fun v Z2 q9 => ?_)
    obtain ⟨rfl, hS9⟩ := q9
    subst hS9
    refine V.eq (S' := S) (ls' := [some (.ref (ax 5 e)), some (.ref (ax 6 op)), some (.int (oI (placeF A e op)))]) (st' := [.int (bI (hgF A e op (tn A 26 e)))]) rfl rfl rfl ?_
    refine V.if_ne h (off := 23) (by decide +kernel) (tgt := 46) (by decide) (fun q => ?_) (fun q => ?_)
    · have q23_21 := (bI_1 (fun z => q (bI_0.mpr z)))
      clear q
      exact V.vret h hA hr (hp _ _ _ (fun _ _ => rfl) (by unfold rexC; rw [if_neg q7_12n, if_pos q23_21]; exact hS)) (by decide +kernel) (Nat.zero_le _) (Nat.zero_le _)
    · have q23_21 := (bI_0.mp q)
      clear q
      refine V.blk h [(.aload_n 1, 1)] (by decide +kernel) (pc' := 27) (ls' := [some (.ref (ax 5 e)), some (.ref (ax 6 op)), some (.int (oI (placeF A e op)))]) (st' := [.ref (ax 6 op)]) rfl rfl (Nat.le_of_ble_eq_true rfl) ?_
      refine V.callV h (np := 0) (st := []) (c_isUpdate hls hS (op := op) (show lv A 6 op from ho) hB (by omega) (post := fun v S7 => v = some (.int (bI (decide (tn A 7 op ≠ 2)))) ∧ S = S7) ⟨rfl, rfl⟩) wc_X6_isUpdate wn_RX6 (Or.inr ⟨_, wm_RX5_129⟩) wi_X6_isUpdate we_X6_isUpdate (by decide +kernel) rfl cls_6 (hS.mem (show lv A 6 op from ho)) (hS.knd (show lv A 6 op from ho)) (Nat.le_of_ble_eq_true rfl) (Nat.le_of_ble_eq_true rfl) (Nat.zero_le _) (Nat.zero_le _) (by simp [Value.category]) (by decide +kernel) rfl (fun v Z3 q9 => ?_)
      obtain ⟨rfl, hS9⟩ := q9
      subst hS9
      refine V.eq (S' := S) (ls' := [some (.ref (ax 5 e)), some (.ref (ax 6 op)), some (.int (oI (placeF A e op)))]) (st' := [.int (bI (decide (tn A 7 op ≠ 2)))]) rfl rfl rfl ?_
      refine V.if_eq h (off := 11) (by decide +kernel) (tgt := 41) (by decide) (fun q => ?_) (fun q => ?_)
      · have q30_32 := (bI_0.mp q)
        clear q
        refine V.blk h [(.aload_n 0, 1), (.aload_n 1, 1)] (by decide +kernel) (pc' := 43) (ls' := [some (.ref (ax 5 e)), some (.ref (ax 6 op)), some (.int (oI (placeF A e op)))]) (st' := [.ref (ax 6 op), .ref (ax 5 e)]) rfl rfl (Nat.le_of_ble_eq_true rfl) ?_
        refine V.callV h (np := 1) (st := []) (c_letWait hls hS (e := e) (op := op) he ho hk16 hg6 hB hK (post := fun v S8 => v = none ∧ ∃ ay8, RA tc (mx ax ay8) (waC A e op) S8) (fun S8 ay8 hr8 => ⟨rfl, ay8, hr8⟩)) wc_X5_letWait wn_RX5 (Or.inl wm_RX5_137) wi_X5_letWait we_X5_letWait (by decide +kernel) rfl cls_5 (hS.mem (show lv A 5 e from he)) (hS.knd (show lv A 5 e from he)) (Nat.le_of_ble_eq_true rfl) (Nat.le_of_ble_eq_true rfl) (by show 0 + 8 ≤ 10; omega) (by show 0 + 2043 ≤ 2422; omega) (by simp [Value.category]) (by decide +kernel) rfl (fun v Z4 q9 => ?_)
        obtain ⟨rfl, ay5, hS6⟩ := q9
        exact V.vret h hA hr (hp _ _ _ (fun _ _ => rfl) (by unfold rexC; rw [if_neg q7_12n, if_neg (by rw [q23_21]; decide), if_pos (Decidable.of_not_not (of_decide_eq_false q30_32))]; exact hS6)) (by decide +kernel) (by omega) (by omega)
      · have q30_32 := (bI_1 (fun z => q (bI_0.mpr z)))
        clear q
        refine V.blk h [(.aload_n 0, 1), (.aload_n 1, 1)] (by decide +kernel) (pc' := 35) (ls' := [some (.ref (ax 5 e)), some (.ref (ax 6 op)), some (.int (oI (placeF A e op)))]) (st' := [.ref (ax 6 op), .ref (ax 5 e)]) rfl rfl (Nat.le_of_ble_eq_true rfl) ?_
        have hrm := Nat.lt_of_lt_of_le (hL.room ho (Decidable.of_not_not q7_12n)) h13
        refine V.callV h (np := 1) (st := []) (c_execute hls hS (e := e) (op := op) he ho hk16 hrm hsy h9 hB hK (post := fun v S8 => v = none ∧ ∃ ax8 ay8, (∀ g, g ≠ 3 → ax8 g = ax g) ∧ RA tc (mx ax8 ay8) (exeC A e op) S8) (fun S8 ax8 ay8 hx8 hr8 => ⟨rfl, ax8, ay8, hx8, hr8⟩)) wc_X5_execute wn_RX5 (Or.inl wm_RX5_133) wi_X5_execute we_X5_execute (by decide +kernel) rfl cls_5 (hS.mem (show lv A 5 e from he)) (hS.knd (show lv A 5 e from he)) (Nat.le_of_ble_eq_true rfl) (Nat.le_of_ble_eq_true rfl) (by show 0 + 10 ≤ 10; omega) (by show 0 + 2422 ≤ 2422; omega) (by simp [Value.category]) (by decide +kernel) rfl (fun v Z7 q9 => ?_)
        obtain ⟨rfl, ax1, ay1, hx1, hr1⟩ := q9
        refine V.goto h (off := 8) (tgt := 46) (by decide +kernel) (by decide) ?_
        exact V.vret h hA hr (hp _ _ _ hx1 (by unfold rexC; rw [if_neg q7_12n, if_neg (by rw [q23_21]; decide), if_neg (of_decide_eq_true q30_32)]; exact hr1)) (by decide +kernel) (by omega) (by omega)
  · have q7_12 : ¬ _ := (fun z => q ((oI_neg (by omega)).mpr z))
    clear q
    have hpl := place_is q7_12
    refine V.blk h [(.aload_n 0, 1), (.iload_n 2, 1)] (by decide +kernel) (pc' := 12) (ls' := [some (.ref (ax 5 e)), some (.ref (ax 6 op)), some (.int (oI (placeF A e op)))]) (st' := [.int (oI (placeF A e op)), .ref (ax 5 e)]) rfl rfl (Nat.le_of_ble_eq_true rfl) ?_
    refine V.top (v' := .int (nI ((placeF A e op) - 1))) (oI_pos (by omega)) ?_
    refine V.callV h (np := 1) (st := []) (c_answerAgain hls hS (e := e) (k := (placeF A e op) - 1) he (by omega) hB hK (post := fun v S8 => v = none ∧ ∃ ay8, RA tc (mx ax ay8) (agnF A e ((placeF A e op) - 1)) S8) (fun S8 ay8 hr8 => ⟨rfl, ay8, hr8⟩)) wc_X5_answerAgain wn_RX5 (Or.inl wm_RX5_125) wi_X5_answerAgain we_X5_answerAgain (by decide +kernel) rfl cls_5 (hS.mem (show lv A 5 e from he)) (hS.knd (show lv A 5 e from he)) (Nat.le_of_ble_eq_true rfl) (Nat.le_of_ble_eq_true rfl) (by show 0 + 6 ≤ 10; omega) (by show 0 + 1140 ≤ 2422; omega) (by simp [Value.category]) (by decide +kernel) rfl (fun v Z8 q9 => ?_)
    obtain ⟨rfl, ay9, hS10⟩ := q9
    refine V.goto h (off := 31) (tgt := 46) (by decide +kernel) (by decide) ?_
    exact V.vret h hA hr (hp _ _ _ (fun _ _ => rfl) (by unfold rexC; rw [if_pos q7_12]; exact hS10)) (by decide +kernel) (by omega) (by omega)
