/-! ===== backups, clients, the fall of a master ===== -/
/-- letters that were there are as they were -/
def lfr (S S' : HS) : Prop := ∀ x, x ∈ zL S → zK S x = 4 → x ∈ zL S' ∧ zK S' x = 4 ∧ ∀ g, 256 ≤ g → g ≤ 262 → zI S' g x = zI S g x ∧ zP S' g x = zP S g x
theorem lfr.rfl {S : HS} : lfr S S := fun _ h k => ⟨h, k, fun _ _ _ => ⟨Eq.refl _, Eq.refl _⟩⟩
theorem lfr.sI {S T : HS} (h : lfr S T) {g a : Nat} {v : Int32} (hg : g < 256 ∨ 262 < g) : lfr S (setI T g a v) := fun x h1 h2 => by
  obtain ⟨a1, a2, a3⟩ := h x h1 h2
  refine ⟨a1, a2, fun g' p q => ⟨?_, (a3 g' p q).2⟩⟩
  show up2 (zI T) g a v g' x = _
  unfold up2
  rw [if_neg (fun z => by omega)]
  exact (a3 g' p q).1
theorem lfr.sP {S T : HS} (h : lfr S T) {g a : Nat} {v : Option Nat} (hg : g < 256 ∨ 262 < g) : lfr S (setP T g a v) := fun x h1 h2 => by
  obtain ⟨a1, a2, a3⟩ := h x h1 h2
  refine ⟨a1, a2, fun g' p q => ⟨(a3 g' p q).1, ?_⟩⟩
  show up2 (zP T) g a v g' x = _
  unfold up2
  rw [if_neg (fun z => by omega)]
  exact (a3 g' p q).2
theorem lfr.sR {S T : HS} (h : lfr S T) {a : Nat} {f : Nat → Option Nat} : lfr S (setR T a f) := h
theorem LT.lfr {S S' : HS} {q so e to n : Nat} {o : Option Nat} {x : Int32} {sa : Bool} (h : LT S q so e to o n x sa) (k : lfr S S') : LT S' q so e to o n x sa := by
  obtain ⟨h1, h2, h3, h4, h5, h6, h7, h8, h9⟩ := h
  obtain ⟨a1, a2, a3⟩ := k q h1 h2
  exact ⟨a1, a2, (a3 256 (by decide) (by decide)).1.trans h3, (a3 257 (by decide) (by decide)).1.trans h4, (a3 258 (by decide) (by decide)).1.trans h5, (a3 259 (by decide) (by decide)).2.trans h6, (a3 260 (by decide) (by decide)).1.trans h7, (a3 261 (by decide) (by decide)).1.trans h8, (a3 262 (by decide) (by decide)).1.trans h9⟩
theorem sn_self (A : TS) (j i : Nat) : sn A j i (tn A j i) = A := by
  unfold sn
  have : up2 A.2.1 j i (tn A j i) = A.2.1 := by
    funext h b
    unfold up2
    by_cases q : h = j ∧ b = i
    · rw [if_pos q, q.1, q.2]; rfl
    · rw [if_neg q]
  rw [this]
theorem rs_else {A : TS} {b n : Nat} : sn A 40 b (if tn A 40 b < n then n else tn A 40 b) = if tn A 40 b < n then sn A 40 b n else A := by
  by_cases z : tn A 40 b < n
  · rw [if_pos z, if_pos z]
  · rw [if_neg z, if_neg z, sn_self]
theorem mx_nn {t n : Nat} (ht : t < 2 ^ 31) (hn : n < 2 ^ 31) : mxF (nI t) (nI n) = nI (if t < n then n else t) := mx_le ht hn
set_option maxRecDepth 100000 in
set_option maxHeartbeats 4000000 in
theorem c_readSync {l : Launch} {D : va_G} {tc : Nat → ClassId} {ax ay : Nat → Nat → Nat} {A : TS} {S : HS} (hls : l.stackTraces = false) (hS : RA tc (mx ax ay) A S) {b : Nat} {e : Nat} {n : Nat} {K : Nat}  (hb : b < tf A 1) (he : e ≤ K) (hn : n ≤ K) (hB : NB K A) (hK : K < 1900000000) {post : Option Value → HS → Prop} (hp : (e < tn A 39 b → post (some (.int (bI false))) S) ∧ (¬ e < tn A 39 b → ∀ S8, RA tc (mx ax ay) (rsynA A b e n) S8 → lfr S S8 → post (some (.int (bI true))) S8)) : CM l D tc yX1_readSync cX1_readSync 3 (some .boolean) 1 0 0 [.ref (ax 1 b), .int (nI (e)), .int (nI (n))] S post := by
  refine CM.of hls (by decide +kernel) (by simp [Value.category]) (Nat.le_of_ble_eq_true rfl) (fun A0 p e9 s m args below meth c sz h hr hnm hA => ?_)
  have hf1 := hS.2.2.1.1
  have hf3 := hS.2.2.1.2.1
  refine V.eqL (ls' := [some (.ref (ax 1 b)), some (.int (nI (e))), some (.int (nI (n)))]) rfl ?_
  refine V.blk h [(.iload_n 1, 1), (.aload_n 0, 1)] (by decide +kernel) (pc' := 2) (ls' := [some (.ref (ax 1 b)), some (.int (nI (e))), some (.int (nI (n)))]) (st' := [.ref (ax 1 b), .int (nI (e))]) rfl rfl (Nat.le_of_ble_eq_true rfl) ?_
  refine V.getI h cls_1 (j := 1) rfl (hS.mem (show lv A 1 b from hb)) (hS.knd (show lv A 1 b from hb)) (Or.inl wf_RX1_13) (by decide +kernel) (v := nI (tn A 39 b)) (hS.int (show lv A 1 b from hb) (by decide) (by decide) rfl) ?_
  have nb5 := hB.2 39 b
  refine V.icmp_ge h (off := 5) (by decide +kernel) (tgt := 10) (by decide) (fun q => ?_) (fun q => ?_)
  · have q5_6 := ((nI_leI (by omega) (by omega)).mp q)
    clear q
    refine V.blk h [(.iload_n 1, 1), (.aload_n 0, 1)] (by decide +kernel) (pc' := 12) (ls' := [some (.ref (ax 1 b)), some (.int (nI (e))), some (.int (nI (n)))]) (st' := [.ref (ax 1 b), .int (nI (e))]) rfl rfl (Nat.le_of_ble_eq_true rfl) ?_
    refine V.getI h cls_1 (j := 1) rfl (hS.mem (show lv A 1 b from hb)) (hS.knd (show lv A 1 b from hb)) (Or.inl wf_RX1_13) (by decide +kernel) (v := nI (tn A 39 b)) (hS.int (show lv A 1 b from hb) (by decide) (by decide) rfl) ?_
    have nb11 := hB.2 39 b
    refine V.icmp_le h (off := 16) (by decide +kernel) (tgt := 31) (by decide) (fun q => ?_) (fun q => ?_)
    · have q15_12 := ((nI_leI (by omega) (by omega)).mp q)
      clear q
      refine V.blk h [(.aload_n 0, 1), (.aload_n 0, 1)] (by decide +kernel) (pc' := 33) (ls' := [some (.ref (ax 1 b)), some (.int (nI (e))), some (.int (nI (n)))]) (st' := [.ref (ax 1 b), .ref (ax 1 b)]) rfl rfl (Nat.le_of_ble_eq_true rfl) ?_
      refine V.getI h cls_1 (j := 2) rfl (hS.mem (show lv A 1 b from hb)) (hS.knd (show lv A 1 b from hb)) (Or.inl wf_RX1_16) (by decide +kernel) (v := nI (tn A 40 b)) (hS.int (show lv A 1 b from hb) (by decide) (by decide) rfl) ?_
      have nb17 := hB.2 40 b
      refine V.blk h [(.iload_n 2, 1)] (by decide +kernel) (pc' := 37) (ls' := [some (.ref (ax 1 b)), some (.int (nI (e))), some (.int (nI (n)))]) (st' := [.int (nI (n)), .int (nI (tn A 40 b)), .ref (ax 1 b)]) rfl rfl (Nat.le_of_ble_eq_true rfl) ?_
      refine V.mmax h wm_RX1_19 (v := nI (if tn A 40 b < n then n else tn A 40 b)) (mx_nn (by omega) (by omega)) (by decide +kernel) (Nat.le_of_ble_eq_true rfl) (Nat.le_of_ble_eq_true rfl) (by show 0 ≤ 0; omega) (by show 0 ≤ 0; omega) ?_
      refine V.putI h cls_1 (j := 2) rfl (hS.mem (show lv A 1 b from hb)) (hS.knd (show lv A 1 b from hb)) (Or.inl wf_RX1_16) rfl rfl rfl (by decide +kernel) ?_
      refine V.gen (P := fun S9 => RA tc (mx ax ay) (sn A 40 b (if tn A 40 b < n then n else tn A 40 b)) S9 ∧ lfr S S9) ⟨(hS.p_1_2 (i := b) (v := (if tn A 40 b < n then n else tn A 40 b)) (show lv A 1 b from hb)), (lfr.rfl (S := S)).sI (by decide)⟩ (fun S1 q8 => ?_)
      obtain ⟨hS1, lf2⟩ := q8
      refine V.blk h [(.iconst 1, 1)] (by decide +kernel) (pc' := 44) (ls' := [some (.ref (ax 1 b)), some (.int (nI (e))), some (.int (nI (n)))]) (st' := [.int (nI (1))]) rfl rfl (Nat.le_of_ble_eq_true rfl) ?_
      refine V.top (v' := .int (bI true)) (by decide) ?_
      exact V.iret h hA hr (bI_nar _) (hp.2 (by omega) _ (by unfold rsynA; rw [if_neg (by omega), ← rs_else]; exact hS1) lf2) (by decide +kernel) (Nat.zero_le _) (Nat.zero_le _)
    · have q15_12 : ¬ _ := (fun z => q ((nI_leI (by omega) (by omega)).mpr z))
      clear q
      refine V.blk h [(.aload_n 0, 1), (.iload_n 1, 1)] (by decide +kernel) (pc' := 20) (ls' := [some (.ref (ax 1 b)), some (.int (nI (e))), some (.int (nI (n)))]) (st' := [.int (nI (e)), .ref (ax 1 b)]) rfl rfl (Nat.le_of_ble_eq_true rfl) ?_
      refine V.putI h cls_1 (j := 1) rfl (hS.mem (show lv A 1 b from hb)) (hS.knd (show lv A 1 b from hb)) (Or.inl wf_RX1_13) rfl rfl rfl (by decide +kernel) ?_
      refine V.gen (P := fun S9 => RA tc (mx ax ay) (sn A 39 b e) S9 ∧ lfr S S9) ⟨(hS.p_1_1 (i := b) (v := e) (show lv A 1 b from hb)), (lfr.rfl (S := S)).sI (by decide)⟩ (fun S3 q8 => ?_)
      obtain ⟨hS3, lf4⟩ := q8
      refine V.blk h [(.aload_n 0, 1), (.iload_n 2, 1)] (by decide +kernel) (pc' := 25) (ls' := [some (.ref (ax 1 b)), some (.int (nI (e))), some (.int (nI (n)))]) (st' := [.int (nI (n)), .ref (ax 1 b)]) rfl rfl (Nat.le_of_ble_eq_true rfl) ?_
      refine V.putI h cls_1 (j := 2) rfl (hS3.mem (show lv (sn A 39 b e) 1 b from hb)) (hS3.knd (show lv (sn A 39 b e) 1 b from hb)) (Or.inl wf_RX1_16) rfl rfl rfl (by decide +kernel) ?_
      refine V.gen (P := fun S9 => RA tc (mx ax ay) (sn (sn A 39 b e) 40 b n) S9 ∧ lfr S S9) ⟨(hS3.p_1_2 (i := b) (v := n) (show lv (sn A 39 b e) 1 b from hb)), lf4.sI (by decide)⟩ (fun S5 q8 => ?_)
      obtain ⟨hS5, lf6⟩ := q8
      refine V.goto h (off := 15) (tgt := 43) (by decide +kernel) (by decide) ?_
      refine V.blk h [(.iconst 1, 1)] (by decide +kernel) (pc' := 44) (ls' := [some (.ref (ax 1 b)), some (.int (nI (e))), some (.int (nI (n)))]) (st' := [.int (nI (1))]) rfl rfl (Nat.le_of_ble_eq_true rfl) ?_
      refine V.top (v' := .int (bI true)) (by decide) ?_
      exact V.iret h hA hr (bI_nar _) (hp.2 (by omega) _ (by unfold rsynA; rw [if_pos (by omega)]; exact hS5) lf6) (by decide +kernel) (Nat.zero_le _) (Nat.zero_le _)
  · have q5_6 : ¬ _ := (fun z => q ((nI_leI (by omega) (by omega)).mpr z))
    clear q
    refine V.blk h [(.iconst 0, 1)] (by decide +kernel) (pc' := 9) (ls' := [some (.ref (ax 1 b)), some (.int (nI (e))), some (.int (nI (n)))]) (st' := [.int (nI (0))]) rfl rfl (Nat.le_of_ble_eq_true rfl) ?_
    refine V.top (v' := .int (bI false)) (by decide) ?_
    exact V.iret h hA hr (bI_nar _) (hp.1 (by omega)) (by decide +kernel) (Nat.zero_le _) (Nat.zero_le _)
set_option maxRecDepth 100000 in
set_option maxHeartbeats 4000000 in
theorem c_isBusy {l : Launch} {D : va_G} {tc : Nat → ClassId} {ax ay : Nat → Nat → Nat} {A : TS} {S : HS} (hls : l.stackTraces = false) (hS : RA tc (mx ax ay) A S) {c9 : Nat} {K : Nat}  (hc : c9 < 4) (hB : NB K A) (hK : K < 1900000000) (hD : ∀ i, tn A 11 i ≠ 1) {post : Option Value → HS → Prop} (hp : post (some (.int (bI (opnF A c9)))) S) : CM l D tc yX2_isBusy cX2_isBusy 1 (some .boolean) 1 0 0 [.ref (ax 2 c9)] S post := by
  refine CM.of hls (by decide +kernel) (by simp [Value.category]) (Nat.le_of_ble_eq_true rfl) (fun A0 p e9 s m args below meth c sz h hr hnm hA => ?_)
  refine V.eqL (ls' := [some (.ref (ax 2 c9))]) rfl ?_
  by_cases hlat0 : tn A 16 c9 = 0
  · skip
    refine V.blk h [(.aload_n 0, 1)] (by decide +kernel) (pc' := 1) (ls' := [some (.ref (ax 2 c9))]) (st' := [.ref (ax 2 c9)]) rfl rfl (Nat.le_of_ble_eq_true rfl) ?_
    refine V.getP h cls_2 (j := 1) rfl (hS.mem (show lv A 2 c9 from hc)) (hS.knd (show lv A 2 c9 from hc)) (Or.inl wf_RX2_7) (by decide +kernel) (v := none) ((hS.ptr (show lv A 2 c9 from hc) (by decide) (by decide) rfl).trans (by show opA _ (tn A 16 c9) = none; rw [hlat0]; rfl)) ?_
    refine V.eq (S' := S) (ls' := [some (.ref (ax 2 c9))]) (st' := [.null]) rfl rfl rfl ?_
    refine V.ifnull h (o := none) (off := 17) (by decide +kernel) (tgt := 21) (by decide) (fun _ => ?_) (fun _ z => by cases z)
    refine V.blk h [(.iconst 0, 1)] (by decide +kernel) (pc' := 22) (ls' := [some (.ref (ax 2 c9))]) (st' := [.int (nI (0))]) rfl rfl (Nat.le_of_ble_eq_true rfl) ?_
    refine V.top (v' := .int (bI false)) (by decide) ?_
    exact V.iret h hA hr (bI_nar _) (by rw [show opnF A c9 = false from by unfold opnF; first | (simp [hlat0]; done) | (simp at *; omega)] at hp; exact hp) (by decide +kernel) (Nat.zero_le _) (Nat.zero_le _)
  · skip
    refine V.blk h [(.aload_n 0, 1)] (by decide +kernel) (pc' := 1) (ls' := [some (.ref (ax 2 c9))]) (st' := [.ref (ax 2 c9)]) rfl rfl (Nat.le_of_ble_eq_true rfl) ?_
    refine V.getP h cls_2 (j := 1) rfl (hS.mem (show lv A 2 c9 from hc)) (hS.knd (show lv A 2 c9 from hc)) (Or.inl wf_RX2_7) (by decide +kernel) (v := some (ax 6 (tn A 16 c9 - 1))) ((hS.ptr (show lv A 2 c9 from hc) (by decide) (by decide) rfl).trans (by show opA _ (tn A 16 c9) = _; unfold opA; rw [if_neg hlat0]; rfl)) ?_
    refine V.eq (S' := S) (ls' := [some (.ref (ax 2 c9))]) (st' := [.ref (ax 6 (tn A 16 c9 - 1))]) rfl rfl rfl ?_
    refine V.ifnull h (o := (some (ax 6 (tn A 16 c9 - 1)))) (off := 17) (by decide +kernel) (tgt := 21) (by decide) (fun z => by cases z) (fun _ _ => ?_)
    refine V.blk h [(.aload_n 0, 1)] (by decide +kernel) (pc' := 8) (ls' := [some (.ref (ax 2 c9))]) (st' := [.ref (ax 2 c9)]) rfl rfl (Nat.le_of_ble_eq_true rfl) ?_
    refine V.getP h cls_2 (j := 1) rfl (hS.mem (show lv A 2 c9 from hc)) (hS.knd (show lv A 2 c9 from hc)) (Or.inl wf_RX2_7) (by decide +kernel) (v := some (ax 6 (tn A 16 c9 - 1))) ((hS.ptr (show lv A 2 c9 from hc) (by decide) (by decide) rfl).trans (by show opA _ (tn A 16 c9) = _; unfold opA; rw [if_neg hlat0]; rfl)) ?_
    refine V.eq (S' := S) (ls' := [some (.ref (ax 2 c9))]) (st' := [.ref (ax 6 (tn A 16 c9 - 1))]) rfl rfl rfl ?_
    refine V.callV h (np := 0) (st := []) (c_isDone hls hS (op := tn A 16 c9 - 1) (show lv A 6 (tn A 16 c9 - 1) from (by have z9 := hS.2.2.2.2.2.1 c9 hc; show tn A 16 c9 - 1 < tf A 13; omega)) hB (by omega) (hD _) (post := fun v S7 => v = some (.int (bI (decide (tn A 11 (tn A 16 c9 - 1) ≠ 0)))) ∧ S = S7) ⟨rfl, rfl⟩) wc_X6_isDone wn_RX6 (Or.inr ⟨_, wm_RX2_13⟩) wi_X6_isDone we_X6_isDone (by decide +kernel) rfl cls_6 (hS.mem (show lv A 6 (tn A 16 c9 - 1) from (by have z9 := hS.2.2.2.2.2.1 c9 hc; show tn A 16 c9 - 1 < tf A 13; omega))) (hS.knd (show lv A 6 (tn A 16 c9 - 1) from (by have z9 := hS.2.2.2.2.2.1 c9 hc; show tn A 16 c9 - 1 < tf A 13; omega))) (Nat.le_of_ble_eq_true rfl) (Nat.le_of_ble_eq_true rfl) (Nat.zero_le _) (Nat.zero_le _) (by simp [Value.category]) (by decide +kernel) rfl (fun v Z1 q9 => ?_)
    obtain ⟨rfl, hS9⟩ := q9
    subst hS9
    refine V.eq (S' := S) (ls' := [some (.ref (ax 2 c9))]) (st' := [.int (bI (decide (tn A 11 (tn A 16 c9 - 1) ≠ 0)))]) rfl rfl rfl ?_
    refine V.if_ne h (off := 7) (by decide +kernel) (tgt := 21) (by decide) (fun q => ?_) (fun q => ?_)
    · have q14_22 := (bI_1 (fun z => q (bI_0.mpr z)))
      clear q
      refine V.blk h [(.iconst 0, 1)] (by decide +kernel) (pc' := 22) (ls' := [some (.ref (ax 2 c9))]) (st' := [.int (nI (0))]) rfl rfl (Nat.le_of_ble_eq_true rfl) ?_
      refine V.top (v' := .int (bI false)) (by decide) ?_
      exact V.iret h hA hr (bI_nar _) (by rw [show opnF A c9 = false from by unfold opnF; first | (simp [hlat0, q14_22]; done) | (simp at *; omega)] at hp; exact hp) (by decide +kernel) (Nat.zero_le _) (Nat.zero_le _)
    · have q14_22 := (bI_0.mp q)
      clear q
      refine V.blk h [(.iconst 1, 1)] (by decide +kernel) (pc' := 18) (ls' := [some (.ref (ax 2 c9))]) (st' := [.int (nI (1))]) rfl rfl (Nat.le_of_ble_eq_true rfl) ?_
      refine V.goto h (off := 4) (tgt := 22) (by decide +kernel) (by decide) ?_
      refine V.top (v' := .int (bI true)) (by decide) ?_
      exact V.iret h hA hr (bI_nar _) (by rw [show opnF A c9 = true from by unfold opnF; first | (simp [hlat0, q14_22]; done) | (simp at *; omega)] at hp; exact hp) (by decide +kernel) (Nat.zero_le _) (Nat.zero_le _)
set_option maxRecDepth 100000 in
set_option maxHeartbeats 4000000 in
theorem c_latestNumber {l : Launch} {D : va_G} {tc : Nat → ClassId} {ax ay : Nat → Nat → Nat} {A : TS} {S : HS} (hls : l.stackTraces = false) (hS : RA tc (mx ax ay) A S) {c9 : Nat} {K : Nat}  (hc : c9 < 4) (hB : NB K A) (hK : K < 1900000000) {post : Option Value → HS → Prop} (hp : post (some (.int (nI (if tn A 16 c9 = 0 then 0 else tn A 6 (tn A 16 c9 - 1))))) S) : CM l D tc yX2_latestNumber cX2_latestNumber 1 (some .int) 1 0 0 [.ref (ax 2 c9)] S post := by
  refine CM.of hls (by decide +kernel) (by simp [Value.category]) (Nat.le_of_ble_eq_true rfl) (fun A0 p e9 s m args below meth c sz h hr hnm hA => ?_)
  refine V.eqL (ls' := [some (.ref (ax 2 c9))]) rfl ?_
  by_cases hlat0 : tn A 16 c9 = 0
  · skip
    refine V.blk h [(.aload_n 0, 1)] (by decide +kernel) (pc' := 1) (ls' := [some (.ref (ax 2 c9))]) (st' := [.ref (ax 2 c9)]) rfl rfl (Nat.le_of_ble_eq_true rfl) ?_
    refine V.getP h cls_2 (j := 1) rfl (hS.mem (show lv A 2 c9 from hc)) (hS.knd (show lv A 2 c9 from hc)) (Or.inl wf_RX2_7) (by decide +kernel) (v := none) ((hS.ptr (show lv A 2 c9 from hc) (by decide) (by decide) rfl).trans (by show opA _ (tn A 16 c9) = none; rw [hlat0]; rfl)) ?_
    refine V.eq (S' := S) (ls' := [some (.ref (ax 2 c9))]) (st' := [.null]) rfl rfl rfl ?_
    refine V.ifnonnull h (o := none) (off := 7) (by decide +kernel) (tgt := 11) (by decide) (fun _ z => by cases z) (fun _ => ?_)
    refine V.blk h [(.iconst 0, 1)] (by decide +kernel) (pc' := 8) (ls' := [some (.ref (ax 2 c9))]) (st' := [.int (nI (0))]) rfl rfl (Nat.le_of_ble_eq_true rfl) ?_
    refine V.goto h (off := 10) (tgt := 18) (by decide +kernel) (by decide) ?_
    exact V.iret h hA hr rfl (by rw [if_pos hlat0] at hp; exact hp) (by decide +kernel) (Nat.zero_le _) (Nat.zero_le _)
  · skip
    refine V.blk h [(.aload_n 0, 1)] (by decide +kernel) (pc' := 1) (ls' := [some (.ref (ax 2 c9))]) (st' := [.ref (ax 2 c9)]) rfl rfl (Nat.le_of_ble_eq_true rfl) ?_
    refine V.getP h cls_2 (j := 1) rfl (hS.mem (show lv A 2 c9 from hc)) (hS.knd (show lv A 2 c9 from hc)) (Or.inl wf_RX2_7) (by decide +kernel) (v := some (ax 6 (tn A 16 c9 - 1))) ((hS.ptr (show lv A 2 c9 from hc) (by decide) (by decide) rfl).trans (by show opA _ (tn A 16 c9) = _; unfold opA; rw [if_neg hlat0]; rfl)) ?_
    refine V.eq (S' := S) (ls' := [some (.ref (ax 2 c9))]) (st' := [.ref (ax 6 (tn A 16 c9 - 1))]) rfl rfl rfl ?_
    refine V.ifnonnull h (o := (some (ax 6 (tn A 16 c9 - 1)))) (off := 7) (by decide +kernel) (tgt := 11) (by decide) (fun _ _ => ?_) (fun z => by cases z)
    refine V.blk h [(.aload_n 0, 1)] (by decide +kernel) (pc' := 12) (ls' := [some (.ref (ax 2 c9))]) (st' := [.ref (ax 2 c9)]) rfl rfl (Nat.le_of_ble_eq_true rfl) ?_
    refine V.getP h cls_2 (j := 1) rfl (hS.mem (show lv A 2 c9 from hc)) (hS.knd (show lv A 2 c9 from hc)) (Or.inl wf_RX2_7) (by decide +kernel) (v := some (ax 6 (tn A 16 c9 - 1))) ((hS.ptr (show lv A 2 c9 from hc) (by decide) (by decide) rfl).trans (by show opA _ (tn A 16 c9) = _; unfold opA; rw [if_neg hlat0]; rfl)) ?_
    refine V.eq (S' := S) (ls' := [some (.ref (ax 2 c9))]) (st' := [.ref (ax 6 (tn A 16 c9 - 1))]) rfl rfl rfl ?_
    refine V.getI h cls_6 (j := 1) rfl (hS.mem (show lv A 6 (tn A 16 c9 - 1) from (by have z9 := hS.2.2.2.2.2.1 c9 hc; show tn A 16 c9 - 1 < tf A 13; omega))) (hS.knd (show lv A 6 (tn A 16 c9 - 1) from (by have z9 := hS.2.2.2.2.2.1 c9 hc; show tn A 16 c9 - 1 < tf A 13; omega))) (Or.inr ⟨_, wf_RX2_19⟩) (by decide +kernel) (v := nI (tn A 6 (tn A 16 c9 - 1))) (hS.int (show lv A 6 (tn A 16 c9 - 1) from (by have z9 := hS.2.2.2.2.2.1 c9 hc; show tn A 16 c9 - 1 < tf A 13; omega)) (by decide) (by decide) rfl) ?_
    have nb19 := hB.2 6 (tn A 16 c9 - 1)
    exact V.iret h hA hr rfl (by rw [if_neg hlat0] at hp; exact hp) (by decide +kernel) (Nat.zero_le _) (Nat.zero_le _)
set_option maxRecDepth 100000 in
set_option maxHeartbeats 4000000 in
theorem c_told {l : Launch} {D : va_G} {tc : Nat → ClassId} {ax ay : Nat → Nat → Nat} {A : TS} {S : HS} (hls : l.stackTraces = false) (hS : RA tc (mx ax ay) A S) {c9 : Nat} {K : Nat}  (hc : c9 < 4) (hB : NB K A) (hK : K < 1900000000) {post : Option Value → HS → Prop} (hp : post (some (.int (if tn A 16 c9 = 0 then nI 0 else tr A 12 (tn A 16 c9 - 1)))) S) : CM l D tc yX2_told cX2_told 1 (some .int) 1 0 0 [.ref (ax 2 c9)] S post := by
  refine CM.of hls (by decide +kernel) (by simp [Value.category]) (Nat.le_of_ble_eq_true rfl) (fun A0 p e9 s m args below meth c sz h hr hnm hA => ?_)
  refine V.eqL (ls' := [some (.ref (ax 2 c9))]) rfl ?_
  by_cases hlat0 : tn A 16 c9 = 0
  · skip
    refine V.blk h [(.aload_n 0, 1)] (by decide +kernel) (pc' := 1) (ls' := [some (.ref (ax 2 c9))]) (st' := [.ref (ax 2 c9)]) rfl rfl (Nat.le_of_ble_eq_true rfl) ?_
    refine V.getP h cls_2 (j := 1) rfl (hS.mem (show lv A 2 c9 from hc)) (hS.knd (show lv A 2 c9 from hc)) (Or.inl wf_RX2_7) (by decide +kernel) (v := none) ((hS.ptr (show lv A 2 c9 from hc) (by decide) (by decide) rfl).trans (by show opA _ (tn A 16 c9) = none; rw [hlat0]; rfl)) ?_
    refine V.eq (S' := S) (ls' := [some (.ref (ax 2 c9))]) (st' := [.null]) rfl rfl rfl ?_
    refine V.ifnonnull h (o := none) (off := 7) (by decide +kernel) (tgt := 11) (by decide) (fun _ z => by cases z) (fun _ => ?_)
    refine V.blk h [(.iconst 0, 1)] (by decide +kernel) (pc' := 8) (ls' := [some (.ref (ax 2 c9))]) (st' := [.int (nI (0))]) rfl rfl (Nat.le_of_ble_eq_true rfl) ?_
    refine V.goto h (off := 10) (tgt := 18) (by decide +kernel) (by decide) ?_
    exact V.iret h hA hr rfl (by rw [if_pos hlat0] at hp; exact hp) (by decide +kernel) (Nat.zero_le _) (Nat.zero_le _)
  · skip
    refine V.blk h [(.aload_n 0, 1)] (by decide +kernel) (pc' := 1) (ls' := [some (.ref (ax 2 c9))]) (st' := [.ref (ax 2 c9)]) rfl rfl (Nat.le_of_ble_eq_true rfl) ?_
    refine V.getP h cls_2 (j := 1) rfl (hS.mem (show lv A 2 c9 from hc)) (hS.knd (show lv A 2 c9 from hc)) (Or.inl wf_RX2_7) (by decide +kernel) (v := some (ax 6 (tn A 16 c9 - 1))) ((hS.ptr (show lv A 2 c9 from hc) (by decide) (by decide) rfl).trans (by show opA _ (tn A 16 c9) = _; unfold opA; rw [if_neg hlat0]; rfl)) ?_
    refine V.eq (S' := S) (ls' := [some (.ref (ax 2 c9))]) (st' := [.ref (ax 6 (tn A 16 c9 - 1))]) rfl rfl rfl ?_
    refine V.ifnonnull h (o := (some (ax 6 (tn A 16 c9 - 1)))) (off := 7) (by decide +kernel) (tgt := 11) (by decide) (fun _ _ => ?_) (fun z => by cases z)
    refine V.blk h [(.aload_n 0, 1)] (by decide +kernel) (pc' := 12) (ls' := [some (.ref (ax 2 c9))]) (st' := [.ref (ax 2 c9)]) rfl rfl (Nat.le_of_ble_eq_true rfl) ?_
    refine V.getP h cls_2 (j := 1) rfl (hS.mem (show lv A 2 c9 from hc)) (hS.knd (show lv A 2 c9 from hc)) (Or.inl wf_RX2_7) (by decide +kernel) (v := some (ax 6 (tn A 16 c9 - 1))) ((hS.ptr (show lv A 2 c9 from hc) (by decide) (by decide) rfl).trans (by show opA _ (tn A 16 c9) = _; unfold opA; rw [if_neg hlat0]; rfl)) ?_
    refine V.eq (S' := S) (ls' := [some (.ref (ax 2 c9))]) (st' := [.ref (ax 6 (tn A 16 c9 - 1))]) rfl rfl rfl ?_
    refine V.getI h cls_6 (j := 7) rfl (hS.mem (show lv A 6 (tn A 16 c9 - 1) from (by have z9 := hS.2.2.2.2.2.1 c9 hc; show tn A 16 c9 - 1 < tf A 13; omega))) (hS.knd (show lv A 6 (tn A 16 c9 - 1) from (by have z9 := hS.2.2.2.2.2.1 c9 hc; show tn A 16 c9 - 1 < tf A 13; omega))) (Or.inr ⟨_, wf_RX2_23⟩) (by decide +kernel) (v := tr A 12 (tn A 16 c9 - 1)) (hS.int (show lv A 6 (tn A 16 c9 - 1) from (by have z9 := hS.2.2.2.2.2.1 c9 hc; show tn A 16 c9 - 1 < tf A 13; omega)) (by decide) (by decide) rfl) ?_
    exact V.iret h hA hr rfl (by rw [if_neg hlat0] at hp; exact hp) (by decide +kernel) (Nat.zero_le _) (Nat.zero_le _)
set_option maxRecDepth 100000 in
set_option maxHeartbeats 4000000 in
theorem c_forget {l : Launch} {D : va_G} {tc : Nat → ClassId} {ax ay : Nat → Nat → Nat} {A : TS} {S : HS} (hls : l.stackTraces = false) (hS : RA tc (mx ax ay) A S) {c9 : Nat}  (hc : c9 < 4) {post : Option Value → HS → Prop} (hp : ∀ S8, RA tc (mx ax ay) (sr (sb (sn A 18 c9 0) 19 c9 false) 1 c9 (nI 0)) S8 → post none S8) : CM l D tc yX2_forgetReplies cX2_forgetReplies 1 (none) 0 0 0 [.ref (ax 2 c9)] S post := by
  refine CM.of hls (by decide +kernel) (by simp [Value.category]) (Nat.le_of_ble_eq_true rfl) (fun A0 p e9 s m args below meth c sz h hr hnm hA => ?_)
  refine V.eqL (ls' := [some (.ref (ax 2 c9))]) rfl ?_
  refine V.blk h [(.aload_n 0, 1), (.iconst 0, 1)] (by decide +kernel) (pc' := 2) (ls' := [some (.ref (ax 2 c9))]) (st' := [.int (nI (0)), .ref (ax 2 c9)]) rfl rfl (Nat.le_of_ble_eq_true rfl) ?_
  refine V.putI h cls_2 (j := 2) rfl (hS.mem (show lv A 2 c9 from hc)) (hS.knd (show lv A 2 c9 from hc)) (Or.inl wf_RX2_26) rfl rfl rfl (by decide +kernel) ?_
  refine V.gen (P := fun S9 => RA tc (mx ax ay) (sn A 18 c9 0) S9) (hS.p_2_2 (i := c9) (v := 0) (show lv A 2 c9 from hc)) (fun S1 hS1 => ?_)
  refine V.blk h [(.aload_n 0, 1), (.iconst 0, 1)] (by decide +kernel) (pc' := 7) (ls' := [some (.ref (ax 2 c9))]) (st' := [.int (nI (0)), .ref (ax 2 c9)]) rfl rfl (Nat.le_of_ble_eq_true rfl) ?_
  refine V.top (v' := .int (bI false)) (by decide) ?_
  refine V.putI h cls_2 (j := 3) rfl (hS1.mem (show lv (sn A 18 c9 0) 2 c9 from hc)) (hS1.knd (show lv (sn A 18 c9 0) 2 c9 from hc)) (Or.inl wf_RX2_29) rfl (bI_nar _) (bI_fit _) (by decide +kernel) ?_
  refine V.gen (P := fun S9 => RA tc (mx ax ay) (sb (sn A 18 c9 0) 19 c9 false) S9) (hS1.p_2_3 (i := c9) (v := false) (show lv (sn A 18 c9 0) 2 c9 from hc)) (fun S2 hS2 => ?_)
  refine V.blk h [(.aload_n 0, 1), (.iconst 0, 1)] (by decide +kernel) (pc' := 12) (ls' := [some (.ref (ax 2 c9))]) (st' := [.int (nI (0)), .ref (ax 2 c9)]) rfl rfl (Nat.le_of_ble_eq_true rfl) ?_
  refine V.putI h cls_2 (j := 4) rfl (hS2.mem (show lv (sb (sn A 18 c9 0) 19 c9 false) 2 c9 from hc)) (hS2.knd (show lv (sb (sn A 18 c9 0) 19 c9 false) 2 c9 from hc)) (Or.inl wf_RX2_33) rfl rfl rfl (by decide +kernel) ?_
  refine V.gen (P := fun S9 => RA tc (mx ax ay) (sr (sb (sn A 18 c9 0) 19 c9 false) 1 c9 (nI 0)) S9) (hS2.p_2_4 (i := c9) (v := nI 0) (show lv (sb (sn A 18 c9 0) 19 c9 false) 2 c9 from hc)) (fun S3 hS3 => ?_)
  exact V.vret h hA hr (hp _ hS3) (by decide +kernel) (Nat.zero_le _) (Nat.zero_le _)
set_option maxRecDepth 100000 in
set_option maxHeartbeats 4000000 in
theorem c_fall {l : Launch} {D : va_G} {tc : Nat → ClassId} {ax ay : Nat → Nat → Nat} {A : TS} {S : HS} (hls : l.stackTraces = false) (hS : RA tc (mx ax ay) A S) {e : Nat}  (he : e < tf A 38) {post : Option Value → HS → Prop} (hp : ∀ S8, RA tc (mx ax ay) (craF A e) S8 → post (some (.int (bI (tb A 30 e)))) S8) : CM l D tc yX5_fall cX5_fall 2 (some .boolean) 1 0 0 [.ref (ax 5 e)] S post := by
  refine CM.of hls (by decide +kernel) (by simp [Value.category]) (Nat.le_of_ble_eq_true rfl) (fun A0 p e9 s m args below meth c sz h hr hnm hA => ?_)
  have he12 : e < 12 := by have := hS.2.2.2.1.2.1; omega
  refine V.eqL (ls' := [some (.ref (ax 5 e)), none]) rfl ?_
  refine V.blk h [(.aload_n 0, 1)] (by decide +kernel) (pc' := 1) (ls' := [some (.ref (ax 5 e)), none]) (st' := [.ref (ax 5 e)]) rfl rfl (Nat.le_of_ble_eq_true rfl) ?_
  refine V.getI h cls_5 (j := 7) rfl (hS.mem (show lv A 5 e from he)) (hS.knd (show lv A 5 e from he)) (Or.inl wf_RX5_51) (by decide +kernel) (v := bI (tb A 30 e)) (hS.int (show lv A 5 e from he) (by decide) (by decide) rfl) ?_
  refine V.blk h [(.istore_n 1, 1), (.aload_n 0, 1), (.iconst 0, 1)] (by decide +kernel) (pc' := 7) (ls' := [some (.ref (ax 5 e)), some (.int (bI (tb A 30 e)))]) (st' := [.int (nI (0)), .ref (ax 5 e)]) rfl rfl (Nat.le_of_ble_eq_true rfl) ?_
  refine V.top (v' := .int (bI false)) (by decide) ?_
  refine V.putI h cls_5 (j := 7) rfl (hS.mem (show lv A 5 e from he)) (hS.knd (show lv A 5 e from he)) (Or.inl wf_RX5_51) rfl (bI_nar _) (bI_fit _) (by decide +kernel) ?_
  refine V.gen (P := fun S9 => RA tc (mx ax ay) (sb A 30 e false) S9) (hS.p_5_7 (i := e) (v := false) (show lv A 5 e from he)) (fun S1 hS1 => ?_)
  refine V.blk h [(.aload_n 0, 1)] (by decide +kernel) (pc' := 11) (ls' := [some (.ref (ax 5 e)), some (.int (bI (tb A 30 e)))]) (st' := [.ref (ax 5 e)]) rfl rfl (Nat.le_of_ble_eq_true rfl) ?_
  refine V.getP h cls_5 (j := 4) rfl (hS1.mem (show lv (sb A 30 e false) 5 e from he)) (hS1.knd (show lv (sb A 30 e false) 5 e from he)) (Or.inl wf_RX5_29) (by decide +kernel) (v := some (ax 0 (15 + e))) (hS1.ptr (show lv (sb A 30 e false) 5 e from he) (by decide) (by decide) rfl) ?_
  refine V.eq (S' := S1) (ls' := [some (.ref (ax 5 e)), some (.int (bI (tb A 30 e)))]) (st' := [.ref (ax 0 (15 + e))]) rfl rfl rfl ?_
  refine V.callV h (np := 0) (st := []) (l_clear hls hS1 (i := 15 + e) (lv_gts (show e < tf A 38 from he)) (post := fun v S7 => v = none ∧ clX S1 (ax 0 (15 + e)) (ay 23 (15 + e)) (ay 50 (15 + e)) (tn A 37 e) = S7) (by rw [lsz_g he12]; exact ⟨rfl, rfl⟩)) wc_Jx4a65c_clear_da8c8 wn_RJx4a65c (Or.inl wm_RX5_55) wi_Jx4a65c_clear_da8c8 we_Jx4a65c_clear_da8c8 (by decide +kernel) rfl cls_0 (hS1.mem (show lv (sb A 30 e false) 0 (15 + e) from (lv_gts he))) (hS1.knd (show lv (sb A 30 e false) 0 (15 + e) from (lv_gts he))) (Nat.le_of_ble_eq_true rfl) (Nat.le_of_ble_eq_true rfl) (Nat.zero_le _) (Nat.zero_le _) (by simp [Value.category]) (by decide +kernel) rfl (fun v Z2 q9 => ?_)
  obtain ⟨rfl, hq9⟩ := q9
  have hr9 := hS1.clGot (e := e) he
  have hr8 : RA tc (mx ax ay) (clG (sb A 30 e false) e) Z2 := hq9 ▸ hr9
  refine V.blk h [(.iload_n 1, 1)] (by decide +kernel) (pc' := 18) (ls' := [some (.ref (ax 5 e)), some (.int (bI (tb A 30 e)))]) (st' := [.int (bI (tb A 30 e))]) rfl rfl (Nat.le_of_ble_eq_true rfl) ?_
  exact V.iret h hA hr (bI_nar _) (hp _ hr8) (by decide +kernel) (Nat.zero_le _) (Nat.zero_le _)
