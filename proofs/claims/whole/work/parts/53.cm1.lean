/-! ===== the class's operations; what a master's log says ===== -/
theorem oI_p1 (t : Nat) : oI t + nI 1 = nI t := by
  cases t with
  | zero => decide
  | succ k => rw [oI_s, nI_add]
theorem cln_v {A : TS} {e : Nat} : cln A 20 (2 * e) = 16 := by
  unfold cln
  rw [if_pos rfl, if_pos (by omega)]
theorem cln_t {A : TS} {e : Nat} : cln A 20 (2 * e + 1) = tf A 1 := by
  unfold cln
  rw [if_pos rfl, if_neg (by omega)]
theorem cav_v {A : TS} {e k : Nat} : cav A (2 * e) k = tr A 3 (16 * e + k) := by
  unfold cav
  rw [if_pos (by omega), show 2 * e / 2 = e by omega]
theorem cav_t {A : TS} {e k : Nat} : cav A (2 * e + 1) k = oI (tn A 32 (3 * e + k)) := by
  unfold cav
  rw [if_neg (by omega), show (2 * e + 1) / 2 = e by omega]
section
variable {tc : Nat → ClassId} {ax ay : Nat → Nat → Nat} {A : TS} {S : HS}
theorem RA.opeq (h : RA tc (mx ax ay) A S) {i j : Nat} (hi : i < tf A 13) (hj : j < tf A 13) : (some (ax 6 i) = some (ax 6 j)) ↔ i = j := ⟨fun z => h.inj (g := 6) (by decide) hi hj (Option.some.inj z), fun z => by rw [z]⟩
theorem RA.lop (h : RA tc (mx ax ay) A S) {e k : Nat} (he : e < tf A 38) (hk : k < tn A 26 e) : tn A 22 (600 * e + k) < tf A 13 := h.2.2.2.2.2.2.1 _ (lv_ent h he hk)
theorem RA.gop (h : RA tc (mx ax ay) A S) {e k : Nat} (he : e < tf A 38) (hk : k < tn A 37 e) : tn A 33 (600 * e + k) < tf A 13 := h.2.2.2.2.2.2.2.2.1 _ (lv_get h he hk)
end
/-- is an operation done before another was asked for; the order of records -/
def dbF (A : TS) (x y : Nat) : Bool := decide (tn A 11 x ≠ 0 ∧ tn A 11 x ≤ tn A 10 y)
def cbF (A : TS) (x y : Nat) : Bool := decide (tn A 5 y < tn A 5 x ∨ (tn A 5 x = tn A 5 y ∧ tn A 6 y < tn A 6 x))
set_option maxRecDepth 100000 in
set_option maxHeartbeats 4000000 in
theorem c_isUpdate {l : Launch} {D : va_G} {tc : Nat → ClassId} {ax ay : Nat → Nat → Nat} {A : TS} {S : HS} (hls : l.stackTraces = false) (hS : RA tc (mx ax ay) A S) {op : Nat} {K : Nat}  (ho : op < tf A 13) (hB : NB K A) (hK : K < 2000000000) {post : Option Value → HS → Prop} (hp : post (some (.int (bI (decide (tn A 7 op ≠ 2))))) S) : CM l D tc yX6_isUpdate cX6_isUpdate 1 (some .boolean) 0 0 0 [.ref (ax 6 op)] S post := by
  refine CM.of hls (by decide +kernel) (by simp [Value.category]) (Nat.le_of_ble_eq_true rfl) (fun A0 p e9 s m args below meth c sz h hr hnm hA => ?_)
  refine V.eqL (ls' := [some (.ref (ax 6 op))]) rfl ?_
  refine V.blk h [(.aload_n 0, 1)] (by decide +kernel) (pc' := 1) (ls' := [some (.ref (ax 6 op))]) (st' := [.ref (ax 6 op)]) rfl rfl (Nat.le_of_ble_eq_true rfl) ?_
  refine V.getI h cls_6 (j := 2) rfl (hS.mem (show lv A 6 op from ho)) (hS.knd (show lv A 6 op from ho)) (Or.inl wf_RX6_18) (by decide +kernel) (v := nI (tn A 7 op)) (hS.int (show lv A 6 op from ho) (by decide) (by decide) rfl) ?_
  have nb3 := hB.2 7 op
  refine V.blk h [(.iconst 2, 1)] (by decide +kernel) (pc' := 5) (ls' := [some (.ref (ax 6 op))]) (st' := [.int (nI (2)), .int (nI (tn A 7 op))]) rfl rfl (Nat.le_of_ble_eq_true rfl) ?_
  refine V.icmp_eq h (off := 7) (by decide +kernel) (tgt := 12) (by decide) (fun q => ?_) (fun q => ?_)
  · have q5_5 := ((nI_eq (by omega) (by omega)).mp q)
    clear q
    refine V.blk h [(.iconst 0, 1)] (by decide +kernel) (pc' := 13) (ls' := [some (.ref (ax 6 op))]) (st' := [.int (nI (0))]) rfl rfl (Nat.le_of_ble_eq_true rfl) ?_
    refine V.top (v' := .int (bI false)) (by decide) ?_
    exact V.iret h hA hr (bI_nar _) (by rw [show (decide (tn A 7 op ≠ 2)) = false from by first | (simp [q5_5]; done) | (simp [q5_5]; omega)] at hp; exact hp) (by decide +kernel) (Nat.zero_le _) (Nat.zero_le _)
  · have q5_5 : ¬ _ := (fun z => q ((nI_eq (by omega) (by omega)).mpr z))
    clear q
    refine V.blk h [(.iconst 1, 1)] (by decide +kernel) (pc' := 9) (ls' := [some (.ref (ax 6 op))]) (st' := [.int (nI (1))]) rfl rfl (Nat.le_of_ble_eq_true rfl) ?_
    refine V.goto h (off := 4) (tgt := 13) (by decide +kernel) (by decide) ?_
    refine V.top (v' := .int (bI true)) (by decide) ?_
    exact V.iret h hA hr (bI_nar _) (by rw [show (decide (tn A 7 op ≠ 2)) = true from by first | (simp [q5_5]; done) | (simp [q5_5]; omega)] at hp; exact hp) (by decide +kernel) (Nat.zero_le _) (Nat.zero_le _)
set_option maxRecDepth 100000 in
set_option maxHeartbeats 4000000 in
theorem c_isDone {l : Launch} {D : va_G} {tc : Nat → ClassId} {ax ay : Nat → Nat → Nat} {A : TS} {S : HS} (hls : l.stackTraces = false) (hS : RA tc (mx ax ay) A S) {op : Nat} {K : Nat}  (ho : op < tf A 13) (hB : NB K A) (hK : K < 2000000000) (hD : tn A 11 op ≠ 1) {post : Option Value → HS → Prop} (hp : post (some (.int (bI (decide (tn A 11 op ≠ 0))))) S) : CM l D tc yX6_isDone cX6_isDone 1 (some .boolean) 0 0 0 [.ref (ax 6 op)] S post := by
  refine CM.of hls (by decide +kernel) (by simp [Value.category]) (Nat.le_of_ble_eq_true rfl) (fun A0 p e9 s m args below meth c sz h hr hnm hA => ?_)
  refine V.eqL (ls' := [some (.ref (ax 6 op))]) rfl ?_
  refine V.blk h [(.aload_n 0, 1)] (by decide +kernel) (pc' := 1) (ls' := [some (.ref (ax 6 op))]) (st' := [.ref (ax 6 op)]) rfl rfl (Nat.le_of_ble_eq_true rfl) ?_
  refine V.getI h cls_6 (j := 6) rfl (hS.mem (show lv A 6 op from ho)) (hS.knd (show lv A 6 op from ho)) (Or.inl wf_RX6_27) (by decide +kernel) (v := nI (tn A 11 op - 1)) (hS.int (show lv A 6 op from ho) (by decide) (by decide) rfl) ?_
  have nb3 := hB.2 11 op
  refine V.if_eq h (off := 7) (by decide +kernel) (tgt := 11) (by decide) (fun q => ?_) (fun q => ?_)
  · have q4_4 := ((nI_z_eq (by omega)).mp q)
    clear q
    refine V.blk h [(.iconst 0, 1)] (by decide +kernel) (pc' := 12) (ls' := [some (.ref (ax 6 op))]) (st' := [.int (nI (0))]) rfl rfl (Nat.le_of_ble_eq_true rfl) ?_
    refine V.top (v' := .int (bI false)) (by decide) ?_
    exact V.iret h hA hr (bI_nar _) (by rw [show (decide (tn A 11 op ≠ 0)) = false from by first | (simp [q4_4]; done) | (simp [q4_4]; omega)] at hp; exact hp) (by decide +kernel) (Nat.zero_le _) (Nat.zero_le _)
  · have q4_4 : ¬ _ := (fun z => q ((nI_z_eq (by omega)).mpr z))
    clear q
    refine V.blk h [(.iconst 1, 1)] (by decide +kernel) (pc' := 8) (ls' := [some (.ref (ax 6 op))]) (st' := [.int (nI (1))]) rfl rfl (Nat.le_of_ble_eq_true rfl) ?_
    refine V.goto h (off := 4) (tgt := 12) (by decide +kernel) (by decide) ?_
    refine V.top (v' := .int (bI true)) (by decide) ?_
    exact V.iret h hA hr (bI_nar _) (by rw [show (decide (tn A 11 op ≠ 0)) = true from by first | (simp [q4_4]; done) | (simp [q4_4]; omega)] at hp; exact hp) (by decide +kernel) (Nat.zero_le _) (Nat.zero_le _)
set_option maxRecDepth 100000 in
set_option maxHeartbeats 4000000 in
theorem c_isDoneBefore {l : Launch} {D : va_G} {tc : Nat → ClassId} {ax ay : Nat → Nat → Nat} {A : TS} {S : HS} (hls : l.stackTraces = false) (hS : RA tc (mx ax ay) A S) {op : Nat} {ot : Nat} {K : Nat}  (ho : op < tf A 13) (hB : NB K A) (hK : K < 2000000000) (ht : ot < tf A 13) (hD : tn A 11 op ≠ 1) {post : Option Value → HS → Prop} (hp : post (some (.int (bI (dbF A op ot)))) S) : CM l D tc yX6_isDoneBefore cX6_isDoneBefore 2 (some .boolean) 0 0 0 [.ref (ax 6 op), .ref (ax 6 ot)] S post := by
  refine CM.of hls (by decide +kernel) (by simp [Value.category]) (Nat.le_of_ble_eq_true rfl) (fun A0 p e9 s m args below meth c sz h hr hnm hA => ?_)
  refine V.eqL (ls' := [some (.ref (ax 6 op)), some (.ref (ax 6 ot))]) rfl ?_
  refine V.blk h [(.aload_n 0, 1)] (by decide +kernel) (pc' := 1) (ls' := [some (.ref (ax 6 op)), some (.ref (ax 6 ot))]) (st' := [.ref (ax 6 op)]) rfl rfl (Nat.le_of_ble_eq_true rfl) ?_
  refine V.getI h cls_6 (j := 6) rfl (hS.mem (show lv A 6 op from ho)) (hS.knd (show lv A 6 op from ho)) (Or.inl wf_RX6_27) (by decide +kernel) (v := nI (tn A 11 op - 1)) (hS.int (show lv A 6 op from ho) (by decide) (by decide) rfl) ?_
  have nb3 := hB.2 11 op
  refine V.if_eq h (off := 18) (by decide +kernel) (tgt := 22) (by decide) (fun q => ?_) (fun q => ?_)
  · have q4_4 := ((nI_z_eq (by omega)).mp q)
    clear q
    refine V.blk h [(.iconst 0, 1)] (by decide +kernel) (pc' := 23) (ls' := [some (.ref (ax 6 op)), some (.ref (ax 6 ot))]) (st' := [.int (nI (0))]) rfl rfl (Nat.le_of_ble_eq_true rfl) ?_
    refine V.top (v' := .int (bI false)) (by decide) ?_
    exact V.iret h hA hr (bI_nar _) (by rw [show dbF A op ot = false from by unfold dbF; simp; omega] at hp; exact hp) (by decide +kernel) (Nat.zero_le _) (Nat.zero_le _)
  · have q4_4 : ¬ _ := (fun z => q ((nI_z_eq (by omega)).mpr z))
    clear q
    refine V.blk h [(.aload_n 0, 1)] (by decide +kernel) (pc' := 8) (ls' := [some (.ref (ax 6 op)), some (.ref (ax 6 ot))]) (st' := [.ref (ax 6 op)]) rfl rfl (Nat.le_of_ble_eq_true rfl) ?_
    refine V.getI h cls_6 (j := 6) rfl (hS.mem (show lv A 6 op from ho)) (hS.knd (show lv A 6 op from ho)) (Or.inl wf_RX6_27) (by decide +kernel) (v := nI (tn A 11 op - 1)) (hS.int (show lv A 6 op from ho) (by decide) (by decide) rfl) ?_
    have nb14 := hB.2 11 op
    refine V.blk h [(.aload_n 1, 1)] (by decide +kernel) (pc' := 12) (ls' := [some (.ref (ax 6 op)), some (.ref (ax 6 ot))]) (st' := [.ref (ax 6 ot), .int (nI (tn A 11 op - 1))]) rfl rfl (Nat.le_of_ble_eq_true rfl) ?_
    refine V.getI h cls_6 (j := 5) rfl (hS.mem (show lv A 6 ot from ht)) (hS.knd (show lv A 6 ot from ht)) (Or.inl wf_RX6_30) (by decide +kernel) (v := nI (tn A 10 ot)) (hS.int (show lv A 6 ot from ht) (by decide) (by decide) rfl) ?_
    have nb17 := hB.2 10 ot
    refine V.icmp_ge h (off := 7) (by decide +kernel) (tgt := 22) (by decide) (fun q => ?_) (fun q => ?_)
    · have q15_18 := ((nI_leI (by omega) (by omega)).mp q)
      clear q
      refine V.blk h [(.iconst 0, 1)] (by decide +kernel) (pc' := 23) (ls' := [some (.ref (ax 6 op)), some (.ref (ax 6 ot))]) (st' := [.int (nI (0))]) rfl rfl (Nat.le_of_ble_eq_true rfl) ?_
      refine V.top (v' := .int (bI false)) (by decide) ?_
      exact V.iret h hA hr (bI_nar _) (by rw [show dbF A op ot = false from by unfold dbF; simp; omega] at hp; exact hp) (by decide +kernel) (Nat.zero_le _) (Nat.zero_le _)
    · have q15_18 : ¬ _ := (fun z => q ((nI_leI (by omega) (by omega)).mpr z))
      clear q
      refine V.blk h [(.iconst 1, 1)] (by decide +kernel) (pc' := 19) (ls' := [some (.ref (ax 6 op)), some (.ref (ax 6 ot))]) (st' := [.int (nI (1))]) rfl rfl (Nat.le_of_ble_eq_true rfl) ?_
      refine V.goto h (off := 4) (tgt := 23) (by decide +kernel) (by decide) ?_
      refine V.top (v' := .int (bI true)) (by decide) ?_
      exact V.iret h hA hr (bI_nar _) (by rw [show dbF A op ot = true from by unfold dbF; simp; omega] at hp; exact hp) (by decide +kernel) (Nat.zero_le _) (Nat.zero_le _)
set_option maxRecDepth 100000 in
set_option maxHeartbeats 4000000 in
theorem c_valueAfter {l : Launch} {D : va_G} {tc : Nat → ClassId} {ax ay : Nat → Nat → Nat} {A : TS} {S : HS} (hls : l.stackTraces = false) (hS : RA tc (mx ax ay) A S) {op : Nat} {x : Int32} {K : Nat}  (ho : op < tf A 13) (hB : NB K A) (hK : K < 2000000000) {post : Option Value → HS → Prop} (hp : post (some (.int (if tn A 7 op = 0 then tr A 9 op else x + tr A 9 op))) S) : CM l D tc yX6_valueAfter cX6_valueAfter 2 (some .int) 0 0 0 [.ref (ax 6 op), .int (x)] S post := by
  refine CM.of hls (by decide +kernel) (by simp [Value.category]) (Nat.le_of_ble_eq_true rfl) (fun A0 p e9 s m args below meth c sz h hr hnm hA => ?_)
  refine V.eqL (ls' := [some (.ref (ax 6 op)), some (.int (x))]) rfl ?_
  refine V.blk h [(.aload_n 0, 1)] (by decide +kernel) (pc' := 1) (ls' := [some (.ref (ax 6 op)), some (.int (x))]) (st' := [.ref (ax 6 op)]) rfl rfl (Nat.le_of_ble_eq_true rfl) ?_
  refine V.getI h cls_6 (j := 2) rfl (hS.mem (show lv A 6 op from ho)) (hS.knd (show lv A 6 op from ho)) (Or.inl wf_RX6_18) (by decide +kernel) (v := nI (tn A 7 op)) (hS.int (show lv A 6 op from ho) (by decide) (by decide) rfl) ?_
  have nb3 := hB.2 7 op
  refine V.if_ne h (off := 10) (by decide +kernel) (tgt := 14) (by decide) (fun q => ?_) (fun q => ?_)
  · have q4_4 : ¬ _ := (fun z => q ((nI_z_eq (by omega)).mpr z))
    clear q
    refine V.blk h [(.iload_n 1, 1), (.aload_n 0, 1)] (by decide +kernel) (pc' := 16) (ls' := [some (.ref (ax 6 op)), some (.int (x))]) (st' := [.ref (ax 6 op), .int (x)]) rfl rfl (Nat.le_of_ble_eq_true rfl) ?_
    refine V.getI h cls_6 (j := 4) rfl (hS.mem (show lv A 6 op from ho)) (hS.knd (show lv A 6 op from ho)) (Or.inl wf_RX6_24) (by decide +kernel) (v := tr A 9 op) (hS.int (show lv A 6 op from ho) (by decide) (by decide) rfl) ?_
    refine V.blk h [(.iadd, 1)] (by decide +kernel) (pc' := 20) (ls' := [some (.ref (ax 6 op)), some (.int (x))]) (st' := [.int (x + (tr A 9 op))]) rfl rfl (Nat.le_of_ble_eq_true rfl) ?_
    exact V.iret h hA hr rfl (by first | (rw [if_pos q4_4] at hp; exact hp) | (rw [if_neg q4_4] at hp; exact hp)) (by decide +kernel) (Nat.zero_le _) (Nat.zero_le _)
  · have q4_4 := ((nI_z_eq (by omega)).mp q)
    clear q
    refine V.blk h [(.aload_n 0, 1)] (by decide +kernel) (pc' := 8) (ls' := [some (.ref (ax 6 op)), some (.int (x))]) (st' := [.ref (ax 6 op)]) rfl rfl (Nat.le_of_ble_eq_true rfl) ?_
    refine V.getI h cls_6 (j := 4) rfl (hS.mem (show lv A 6 op from ho)) (hS.knd (show lv A 6 op from ho)) (Or.inl wf_RX6_24) (by decide +kernel) (v := tr A 9 op) (hS.int (show lv A 6 op from ho) (by decide) (by decide) rfl) ?_
    refine V.goto h (off := 9) (tgt := 20) (by decide +kernel) (by decide) ?_
    exact V.iret h hA hr rfl (by first | (rw [if_pos q4_4] at hp; exact hp) | (rw [if_neg q4_4] at hp; exact hp)) (by decide +kernel) (Nat.zero_le _) (Nat.zero_le _)
set_option maxRecDepth 100000 in
set_option maxHeartbeats 4000000 in
theorem c_answerAfter {l : Launch} {D : va_G} {tc : Nat → ClassId} {ax ay : Nat → Nat → Nat} {A : TS} {S : HS} (hls : l.stackTraces = false) (hS : RA tc (mx ax ay) A S) {op : Nat} {x : Int32} {K : Nat}  (ho : op < tf A 13) (hB : NB K A) (hK : K < 2000000000) {post : Option Value → HS → Prop} (hp : post (some (.int (if tn A 7 op = 0 then x else x + tr A 9 op))) S) : CM l D tc yX6_answerAfter cX6_answerAfter 2 (some .int) 0 0 0 [.ref (ax 6 op), .int (x)] S post := by
  refine CM.of hls (by decide +kernel) (by simp [Value.category]) (Nat.le_of_ble_eq_true rfl) (fun A0 p e9 s m args below meth c sz h hr hnm hA => ?_)
  refine V.eqL (ls' := [some (.ref (ax 6 op)), some (.int (x))]) rfl ?_
  refine V.blk h [(.aload_n 0, 1)] (by decide +kernel) (pc' := 1) (ls' := [some (.ref (ax 6 op)), some (.int (x))]) (st' := [.ref (ax 6 op)]) rfl rfl (Nat.le_of_ble_eq_true rfl) ?_
  refine V.getI h cls_6 (j := 2) rfl (hS.mem (show lv A 6 op from ho)) (hS.knd (show lv A 6 op from ho)) (Or.inl wf_RX6_18) (by decide +kernel) (v := nI (tn A 7 op)) (hS.int (show lv A 6 op from ho) (by decide) (by decide) rfl) ?_
  have nb3 := hB.2 7 op
  refine V.if_ne h (off := 7) (by decide +kernel) (tgt := 11) (by decide) (fun q => ?_) (fun q => ?_)
  · have q4_4 : ¬ _ := (fun z => q ((nI_z_eq (by omega)).mpr z))
    clear q
    refine V.blk h [(.iload_n 1, 1), (.aload_n 0, 1)] (by decide +kernel) (pc' := 13) (ls' := [some (.ref (ax 6 op)), some (.int (x))]) (st' := [.ref (ax 6 op), .int (x)]) rfl rfl (Nat.le_of_ble_eq_true rfl) ?_
    refine V.getI h cls_6 (j := 4) rfl (hS.mem (show lv A 6 op from ho)) (hS.knd (show lv A 6 op from ho)) (Or.inl wf_RX6_24) (by decide +kernel) (v := tr A 9 op) (hS.int (show lv A 6 op from ho) (by decide) (by decide) rfl) ?_
    refine V.blk h [(.iadd, 1)] (by decide +kernel) (pc' := 17) (ls' := [some (.ref (ax 6 op)), some (.int (x))]) (st' := [.int (x + (tr A 9 op))]) rfl rfl (Nat.le_of_ble_eq_true rfl) ?_
    exact V.iret h hA hr rfl (by first | (rw [if_pos q4_4] at hp; exact hp) | (rw [if_neg q4_4] at hp; exact hp)) (by decide +kernel) (Nat.zero_le _) (Nat.zero_le _)
  · have q4_4 := ((nI_z_eq (by omega)).mp q)
    clear q
    refine V.blk h [(.iload_n 1, 1)] (by decide +kernel) (pc' := 8) (ls' := [some (.ref (ax 6 op)), some (.int (x))]) (st' := [.int (x)]) rfl rfl (Nat.le_of_ble_eq_true rfl) ?_
    refine V.goto h (off := 9) (tgt := 17) (by decide +kernel) (by decide) ?_
    exact V.iret h hA hr rfl (by first | (rw [if_pos q4_4] at hp; exact hp) | (rw [if_neg q4_4] at hp; exact hp)) (by decide +kernel) (Nat.zero_le _) (Nat.zero_le _)
set_option maxRecDepth 100000 in
set_option maxHeartbeats 4000000 in
theorem c_comesBehind {l : Launch} {D : va_G} {tc : Nat → ClassId} {ax ay : Nat → Nat → Nat} {A : TS} {S : HS} (hls : l.stackTraces = false) (hS : RA tc (mx ax ay) A S) {op : Nat} {ot : Nat} {K : Nat}  (ho : op < tf A 13) (hB : NB K A) (hK : K < 2000000000) (ht : ot < tf A 13) {post : Option Value → HS → Prop} (hp : post (some (.int (bI (cbF A op ot)))) S) : CM l D tc yX6_comesBehind cX6_comesBehind 2 (some .boolean) 0 0 0 [.ref (ax 6 op), .ref (ax 6 ot)] S post := by
  refine CM.of hls (by decide +kernel) (by simp [Value.category]) (Nat.le_of_ble_eq_true rfl) (fun A0 p e9 s m args below meth c sz h hr hnm hA => ?_)
  refine V.eqL (ls' := [some (.ref (ax 6 op)), some (.ref (ax 6 ot))]) rfl ?_
  refine V.blk h [(.aload_n 0, 1)] (by decide +kernel) (pc' := 1) (ls' := [some (.ref (ax 6 op)), some (.ref (ax 6 ot))]) (st' := [.ref (ax 6 op)]) rfl rfl (Nat.le_of_ble_eq_true rfl) ?_
  refine V.getI h cls_6 (j := 0) rfl (hS.mem (show lv A 6 op from ho)) (hS.knd (show lv A 6 op from ho)) (Or.inl wf_RX6_9) (by decide +kernel) (v := nI (tn A 5 op)) (hS.int (show lv A 6 op from ho) (by decide) (by decide) rfl) ?_
  have nb3 := hB.2 5 op
  refine V.blk h [(.aload_n 1, 1)] (by decide +kernel) (pc' := 5) (ls' := [some (.ref (ax 6 op)), some (.ref (ax 6 ot))]) (st' := [.ref (ax 6 ot), .int (nI (tn A 5 op))]) rfl rfl (Nat.le_of_ble_eq_true rfl) ?_
  refine V.getI h cls_6 (j := 0) rfl (hS.mem (show lv A 6 ot from ht)) (hS.knd (show lv A 6 ot from ht)) (Or.inl wf_RX6_9) (by decide +kernel) (v := nI (tn A 5 ot)) (hS.int (show lv A 6 ot from ht) (by decide) (by decide) rfl) ?_
  have nb6 := hB.2 5 ot
  refine V.icmp_gt h (off := 25) (by decide +kernel) (tgt := 33) (by decide) (fun q => ?_) (fun q => ?_)
  · have q8_7 := ((nI_ltI (by omega) (by omega)).mp q)
    clear q
    refine V.blk h [(.iconst 1, 1)] (by decide +kernel) (pc' := 34) (ls' := [some (.ref (ax 6 op)), some (.ref (ax 6 ot))]) (st' := [.int (nI (1))]) rfl rfl (Nat.le_of_ble_eq_true rfl) ?_
    refine V.goto h (off := 4) (tgt := 38) (by decide +kernel) (by decide) ?_
    refine V.top (v' := .int (bI true)) (by decide) ?_
    exact V.iret h hA hr (bI_nar _) (by rw [show cbF A op ot = true from by unfold cbF; simp; omega] at hp; exact hp) (by decide +kernel) (Nat.zero_le _) (Nat.zero_le _)
  · have q8_7 : ¬ _ := (fun z => q ((nI_ltI (by omega) (by omega)).mpr z))
    clear q
    refine V.blk h [(.aload_n 0, 1)] (by decide +kernel) (pc' := 12) (ls' := [some (.ref (ax 6 op)), some (.ref (ax 6 ot))]) (st' := [.ref (ax 6 op)]) rfl rfl (Nat.le_of_ble_eq_true rfl) ?_
    refine V.getI h cls_6 (j := 0) rfl (hS.mem (show lv A 6 op from ho)) (hS.knd (show lv A 6 op from ho)) (Or.inl wf_RX6_9) (by decide +kernel) (v := nI (tn A 5 op)) (hS.int (show lv A 6 op from ho) (by decide) (by decide) rfl) ?_
    have nb18 := hB.2 5 op
    refine V.blk h [(.aload_n 1, 1)] (by decide +kernel) (pc' := 16) (ls' := [some (.ref (ax 6 op)), some (.ref (ax 6 ot))]) (st' := [.ref (ax 6 ot), .int (nI (tn A 5 op))]) rfl rfl (Nat.le_of_ble_eq_true rfl) ?_
    refine V.getI h cls_6 (j := 0) rfl (hS.mem (show lv A 6 ot from ht)) (hS.knd (show lv A 6 ot from ht)) (Or.inl wf_RX6_9) (by decide +kernel) (v := nI (tn A 5 ot)) (hS.int (show lv A 6 ot from ht) (by decide) (by decide) rfl) ?_
    have nb21 := hB.2 5 ot
    refine V.icmp_ne h (off := 18) (by decide +kernel) (tgt := 37) (by decide) (fun q => ?_) (fun q => ?_)
    · have q19_22 : ¬ _ := (fun z => q ((nI_eq (by omega) (by omega)).mpr z))
      clear q
      refine V.blk h [(.iconst 0, 1)] (by decide +kernel) (pc' := 38) (ls' := [some (.ref (ax 6 op)), some (.ref (ax 6 ot))]) (st' := [.int (nI (0))]) rfl rfl (Nat.le_of_ble_eq_true rfl) ?_
      refine V.top (v' := .int (bI false)) (by decide) ?_
      exact V.iret h hA hr (bI_nar _) (by rw [show cbF A op ot = false from by unfold cbF; simp; omega] at hp; exact hp) (by decide +kernel) (Nat.zero_le _) (Nat.zero_le _)
    · have q19_22 := ((nI_eq (by omega) (by omega)).mp q)
      clear q
      refine V.blk h [(.aload_n 0, 1)] (by decide +kernel) (pc' := 23) (ls' := [some (.ref (ax 6 op)), some (.ref (ax 6 ot))]) (st' := [.ref (ax 6 op)]) rfl rfl (Nat.le_of_ble_eq_true rfl) ?_
      refine V.getI h cls_6 (j := 1) rfl (hS.mem (show lv A 6 op from ho)) (hS.knd (show lv A 6 op from ho)) (Or.inl wf_RX6_15) (by decide +kernel) (v := nI (tn A 6 op)) (hS.int (show lv A 6 op from ho) (by decide) (by decide) rfl) ?_
      have nb32 := hB.2 6 op
      refine V.blk h [(.aload_n 1, 1)] (by decide +kernel) (pc' := 27) (ls' := [some (.ref (ax 6 op)), some (.ref (ax 6 ot))]) (st' := [.ref (ax 6 ot), .int (nI (tn A 6 op))]) rfl rfl (Nat.le_of_ble_eq_true rfl) ?_
      refine V.getI h cls_6 (j := 1) rfl (hS.mem (show lv A 6 ot from ht)) (hS.knd (show lv A 6 ot from ht)) (Or.inl wf_RX6_15) (by decide +kernel) (v := nI (tn A 6 ot)) (hS.int (show lv A 6 ot from ht) (by decide) (by decide) rfl) ?_
      have nb35 := hB.2 6 ot
      refine V.icmp_le h (off := 7) (by decide +kernel) (tgt := 37) (by decide) (fun q => ?_) (fun q => ?_)
      · have q30_36 := ((nI_leI (by omega) (by omega)).mp q)
        clear q
        refine V.blk h [(.iconst 0, 1)] (by decide +kernel) (pc' := 38) (ls' := [some (.ref (ax 6 op)), some (.ref (ax 6 ot))]) (st' := [.int (nI (0))]) rfl rfl (Nat.le_of_ble_eq_true rfl) ?_
        refine V.top (v' := .int (bI false)) (by decide) ?_
        exact V.iret h hA hr (bI_nar _) (by rw [show cbF A op ot = false from by unfold cbF; simp; omega] at hp; exact hp) (by decide +kernel) (Nat.zero_le _) (Nat.zero_le _)
      · have q30_36 : ¬ _ := (fun z => q ((nI_leI (by omega) (by omega)).mpr z))
        clear q
        refine V.blk h [(.iconst 1, 1)] (by decide +kernel) (pc' := 34) (ls' := [some (.ref (ax 6 op)), some (.ref (ax 6 ot))]) (st' := [.int (nI (1))]) rfl rfl (Nat.le_of_ble_eq_true rfl) ?_
        refine V.goto h (off := 4) (tgt := 38) (by decide +kernel) (by decide) ?_
        refine V.top (v' := .int (bI true)) (by decide) ?_
        exact V.iret h hA hr (bI_nar _) (by rw [show cbF A op ot = true from by unfold cbF; simp; omega] at hp; exact hp) (by decide +kernel) (Nat.zero_le _) (Nat.zero_le _)
set_option maxRecDepth 100000 in
set_option maxHeartbeats 4000000 in
theorem c_valueOf {l : Launch} {D : va_G} {tc : Nat → ClassId} {ax ay : Nat → Nat → Nat} {A : TS} {S : HS} (hls : l.stackTraces = false) (hS : RA tc (mx ax ay) A S) {e : Nat} {ky : Nat}  (he : e < tf A 38) (hk : ky < 16) {post : Option Value → HS → Prop} (hp : post (some (.int (tr A 3 (16 * e + ky)))) S) : CM l D tc yX5_valueOf cX5_valueOf 2 (some .int) 0 0 0 [.ref (ax 5 e), .int (nI (ky))] S post := by
  refine CM.of hls (by decide +kernel) (by simp [Value.category]) (Nat.le_of_ble_eq_true rfl) (fun A0 p e9 s m args below meth c sz h hr hnm hA => ?_)
  have h12 := hS.2.2.2.1.2.1
  have h13 := hS.2.2.2.1.2.2.2.1
  have hf1 := hS.2.2.1.1
  have hf3 := hS.2.2.1.2.1
  have h600 := hS.2.2.2.2.1 e he
  refine V.eqL (ls' := [some (.ref (ax 5 e)), some (.int (nI (ky)))]) rfl ?_
  refine V.blk h [(.iload_n 1, 1)] (by decide +kernel) (pc' := 1) (ls' := [some (.ref (ax 5 e)), some (.int (nI (ky)))]) (st' := [.int (nI (ky))]) rfl rfl (Nat.le_of_ble_eq_true rfl) ?_
  refine V.if_lt h (off := 21) (by decide +kernel) (tgt := 22) (by decide) (fun q => ?_) (fun q => ?_)
  · have q1_7 := ((nI_z_lt (by omega)).mp q)
    clear q
    exact absurd q1_7 id
  · have q1_7 : ¬ _ := (fun z => q ((nI_z_lt (by omega)).mpr z))
    clear q
    refine V.blk h [(.iload_n 1, 1), (.aload_n 0, 1)] (by decide +kernel) (pc' := 6) (ls' := [some (.ref (ax 5 e)), some (.int (nI (ky)))]) (st' := [.ref (ax 5 e), .int (nI (ky))]) rfl rfl (Nat.le_of_ble_eq_true rfl) ?_
    refine V.getP h cls_5 (j := 5) rfl (hS.mem (show lv A 5 e from he)) (hS.knd (show lv A 5 e from he)) (Or.inl wf_RX5_32) (by decide +kernel) (v := some (ax 20 (2 * e))) (hS.ptr (show lv A 5 e from he) (by decide) (by decide) rfl) ?_
    refine V.eq (S' := S) (ls' := [some (.ref (ax 5 e)), some (.int (nI (ky)))]) (st' := [.ref (ax 20 (2 * e)), .int (nI (ky))]) rfl rfl rfl ?_
    refine V.alen h 20 (hS.mem (show lv A 20 (2 * e) from (show 2 * e < 2 * tf A 38 by omega))) (hS.knd (show lv A 20 (2 * e) from (show 2 * e < 2 * tf A 38 by omega))) (by decide) (M := 16) ((hS.len (show lv A 20 (2 * e) from (show 2 * e < 2 * tf A 38 by omega)) (by decide)).trans cln_v) (by decide +kernel) ?_
    refine V.icmp_ge h (off := 12) (by decide +kernel) (tgt := 22) (by decide) (fun q => ?_) (fun q => ?_)
    · have q10_17 := ((nI_leI (by omega) (by omega)).mp q)
      clear q
      omega
    · have q10_17 : ¬ _ := (fun z => q ((nI_leI (by omega) (by omega)).mpr z))
      clear q
      refine V.blk h [(.aload_n 0, 1)] (by decide +kernel) (pc' := 14) (ls' := [some (.ref (ax 5 e)), some (.int (nI (ky)))]) (st' := [.ref (ax 5 e)]) rfl rfl (Nat.le_of_ble_eq_true rfl) ?_
      refine V.getP h cls_5 (j := 5) rfl (hS.mem (show lv A 5 e from he)) (hS.knd (show lv A 5 e from he)) (Or.inl wf_RX5_32) (by decide +kernel) (v := some (ax 20 (2 * e))) (hS.ptr (show lv A 5 e from he) (by decide) (by decide) rfl) ?_
      refine V.eq (S' := S) (ls' := [some (.ref (ax 5 e)), some (.int (nI (ky)))]) (st' := [.ref (ax 20 (2 * e))]) rfl rfl rfl ?_
      refine V.blk h [(.iload_n 1, 1)] (by decide +kernel) (pc' := 18) (ls' := [some (.ref (ax 5 e)), some (.int (nI (ky)))]) (st' := [.int (nI (ky)), .ref (ax 20 (2 * e))]) rfl rfl (Nat.le_of_ble_eq_true rfl) ?_
      refine V.iald h (hS.mem (show lv A 20 (2 * e) from (show 2 * e < 2 * tf A 38 by omega))) (hS.knd (show lv A 20 (2 * e) from (show 2 * e < 2 * tf A 38 by omega))) (M := 16) ((hS.len (show lv A 20 (2 * e) from (show 2 * e < 2 * tf A 38 by omega)) (by decide)).trans cln_v) (i := ky) (by omega) (by omega) (by decide +kernel) (v := tr A 3 (16 * e + ky)) ((hS.arr (show lv A 20 (2 * e) from (show 2 * e < 2 * tf A 38 by omega)) (by rw [cln_v]; omega)).trans cav_v) ?_
      refine V.goto h (off := 4) (tgt := 23) (by decide +kernel) (by decide) ?_
      exact V.iret h hA hr rfl hp (by decide +kernel) (Nat.zero_le _) (Nat.zero_le _)
