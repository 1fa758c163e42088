/-! ===== the class's writes, one by one ===== -/
section
variable {tc : Nat → ClassId} {a : Nat → Nat → Nat} {A : TS} {S : HS}
theorem rwi_39 {g j : Nat} : rwc g j = 39 ↔ (g = 1 ∧ j = 1) := by
  constructor
  · intro h
    unfold rwc at h
    split at h <;> first | exact ⟨rfl, rfl⟩ | exact absurd h (by decide)
  · rintro ⟨rfl, rfl⟩
    rfl
theorem RA.p_1_1 (h : RA tc a A S) {i v : Nat} (hl : lv A 1 i) : RA tc a (sn A 39 i v) (setI S (64 * 1 + 1) (a 1 i) (nI v)) := h.wI hl (by decide) (by decide) (by decide) rfl (CE_of (fun _ _ => rfl) (fun j i q => by rw [tn_sn, if_neg (by omega)]) (fun _ => rfl)) (fun g' i' j' _ => by unfold civ; rw [cv_sn (by decide) (by decide) (by decide) (by decide)]; simp only [rwi_39])
theorem rwi_40 {g j : Nat} : rwc g j = 40 ↔ (g = 1 ∧ j = 2) := by
  constructor
  · intro h
    unfold rwc at h
    split at h <;> first | exact ⟨rfl, rfl⟩ | exact absurd h (by decide)
  · rintro ⟨rfl, rfl⟩
    rfl
theorem RA.p_1_2 (h : RA tc a A S) {i v : Nat} (hl : lv A 1 i) : RA tc a (sn A 40 i v) (setI S (64 * 1 + 2) (a 1 i) (nI v)) := h.wI hl (by decide) (by decide) (by decide) rfl (CE_of (fun _ _ => rfl) (fun j i q => by rw [tn_sn, if_neg (by omega)]) (fun _ => rfl)) (fun g' i' j' _ => by unfold civ; rw [cv_sn (by decide) (by decide) (by decide) (by decide)]; simp only [rwi_40])
theorem rwi_17 {g j : Nat} : rwc g j = 17 ↔ (g = 2 ∧ j = 0) := by
  constructor
  · intro h
    unfold rwc at h
    split at h <;> first | exact ⟨rfl, rfl⟩ | exact absurd h (by decide)
  · rintro ⟨rfl, rfl⟩
    rfl
theorem RA.p_2_0 (h : RA tc a A S) {i v : Nat} (hl : lv A 2 i) : RA tc a (sn A 17 i v) (setI S (64 * 2 + 0) (a 2 i) (nI v)) := h.wI hl (by decide) (by decide) (by decide) rfl (CE_of (fun _ _ => rfl) (fun j i q => by rw [tn_sn, if_neg (by omega)]) (fun _ => rfl)) (fun g' i' j' _ => by unfold civ; rw [cv_sn (by decide) (by decide) (by decide) (by decide)]; simp only [rwi_17])
theorem rwi_18 {g j : Nat} : rwc g j = 18 ↔ (g = 2 ∧ j = 2) := by
  constructor
  · intro h
    unfold rwc at h
    split at h <;> first | exact ⟨rfl, rfl⟩ | exact absurd h (by decide)
  · rintro ⟨rfl, rfl⟩
    rfl
theorem RA.p_2_2 (h : RA tc a A S) {i v : Nat} (hl : lv A 2 i) : RA tc a (sn A 18 i v) (setI S (64 * 2 + 2) (a 2 i) (nI v)) := h.wI hl (by decide) (by decide) (by decide) rfl (CE_of (fun _ _ => rfl) (fun j i q => by rw [tn_sn, if_neg (by omega)]) (fun _ => rfl)) (fun g' i' j' _ => by unfold civ; rw [cv_sn (by decide) (by decide) (by decide) (by decide)]; simp only [rwi_18])
theorem rwi_21 {g j : Nat} : rwc g j = 21 ↔ (g = 2 ∧ j = 5) := by
  constructor
  · intro h
    unfold rwc at h
    split at h <;> first | exact ⟨rfl, rfl⟩ | exact absurd h (by decide)
  · rintro ⟨rfl, rfl⟩
    rfl
theorem RA.p_2_5 (h : RA tc a A S) {i v : Nat} (hl : lv A 2 i) : RA tc a (sn A 21 i v) (setI S (64 * 2 + 5) (a 2 i) (nI v)) := h.wI hl (by decide) (by decide) (by decide) rfl (CE_of (fun _ _ => rfl) (fun j i q => by rw [tn_sn, if_neg (by omega)]) (fun _ => rfl)) (fun g' i' j' _ => by unfold civ; rw [cv_sn (by decide) (by decide) (by decide) (by decide)]; simp only [rwi_21])
theorem rwi_27 {g j : Nat} : rwc g j = 27 ↔ (g = 5 ∧ j = 9) := by
  constructor
  · intro h
    unfold rwc at h
    split at h <;> first | exact ⟨rfl, rfl⟩ | exact absurd h (by decide)
  · rintro ⟨rfl, rfl⟩
    rfl
theorem RA.p_5_9 (h : RA tc a A S) {i v : Nat} (hl : lv A 5 i) : RA tc a (sn A 27 i v) (setI S (64 * 5 + 9) (a 5 i) (nI v)) := h.wI hl (by decide) (by decide) (by decide) rfl (CE_of (fun _ _ => rfl) (fun j i q => by rw [tn_sn, if_neg (by omega)]) (fun _ => rfl)) (fun g' i' j' _ => by unfold civ; rw [cv_sn (by decide) (by decide) (by decide) (by decide)]; simp only [rwi_27])
theorem rwi_28 {g j : Nat} : rwc g j = 28 ↔ (g = 5 ∧ j = 10) := by
  constructor
  · intro h
    unfold rwc at h
    split at h <;> first | exact ⟨rfl, rfl⟩ | exact absurd h (by decide)
  · rintro ⟨rfl, rfl⟩
    rfl
theorem RA.p_5_10 (h : RA tc a A S) {i v : Nat} (hl : lv A 5 i) : RA tc a (sn A 28 i v) (setI S (64 * 5 + 10) (a 5 i) (nI v)) := h.wI hl (by decide) (by decide) (by decide) rfl (CE_of (fun _ _ => rfl) (fun j i q => by rw [tn_sn, if_neg (by omega)]) (fun _ => rfl)) (fun g' i' j' _ => by unfold civ; rw [cv_sn (by decide) (by decide) (by decide) (by decide)]; simp only [rwi_28])
theorem rwi_29 {g j : Nat} : rwc g j = 29 ↔ (g = 5 ∧ j = 11) := by
  constructor
  · intro h
    unfold rwc at h
    split at h <;> first | exact ⟨rfl, rfl⟩ | exact absurd h (by decide)
  · rintro ⟨rfl, rfl⟩
    rfl
theorem RA.p_5_11 (h : RA tc a A S) {i v : Nat} (hl : lv A 5 i) : RA tc a (sn A 29 i v) (setI S (64 * 5 + 11) (a 5 i) (nI v)) := h.wI hl (by decide) (by decide) (by decide) rfl (CE_of (fun _ _ => rfl) (fun j i q => by rw [tn_sn, if_neg (by omega)]) (fun _ => rfl)) (fun g' i' j' _ => by unfold civ; rw [cv_sn (by decide) (by decide) (by decide) (by decide)]; simp only [rwi_29])
theorem rwi_10 {g j : Nat} : rwc g j = 10 ↔ (g = 6 ∧ j = 5) := by
  constructor
  · intro h
    unfold rwc at h
    split at h <;> first | exact ⟨rfl, rfl⟩ | exact absurd h (by decide)
  · rintro ⟨rfl, rfl⟩
    rfl
theorem RA.p_6_5 (h : RA tc a A S) {i v : Nat} (hl : lv A 6 i) : RA tc a (sn A 10 i v) (setI S (64 * 6 + 5) (a 6 i) (nI v)) := h.wI hl (by decide) (by decide) (by decide) rfl (CE_of (fun _ _ => rfl) (fun j i q => by rw [tn_sn, if_neg (by omega)]) (fun _ => rfl)) (fun g' i' j' _ => by unfold civ; rw [cv_sn (by decide) (by decide) (by decide) (by decide)]; simp only [rwi_10])
theorem rwi_36 {g j : Nat} : rwc g j = 36 ↔ (g = 8 ∧ j = 4) := by
  constructor
  · intro h
    unfold rwc at h
    split at h <;> first | exact ⟨rfl, rfl⟩ | exact absurd h (by decide)
  · rintro ⟨rfl, rfl⟩
    rfl
theorem RA.p_8_4 (h : RA tc a A S) {i v : Nat} (hl : lv A 8 i) : RA tc a (sn A 36 i v) (setI S (64 * 8 + 4) (a 8 i) (nI v)) := h.wI hl (by decide) (by decide) (by decide) rfl (CE_of (fun _ _ => rfl) (fun j i q => by rw [tn_sn, if_neg (by omega)]) (fun _ => rfl)) (fun g' i' j' _ => by unfold civ; rw [cv_sn (by decide) (by decide) (by decide) (by decide)]; simp only [rwi_36])
theorem rwi_41 {g j : Nat} : rwc g j = 41 ↔ (g = 9 ∧ j = 4) := by
  constructor
  · intro h
    unfold rwc at h
    split at h <;> first | exact ⟨rfl, rfl⟩ | exact absurd h (by decide)
  · rintro ⟨rfl, rfl⟩
    rfl
theorem RA.p_9_4 (h : RA tc a A S) {i v : Nat} (hl : lv A 9 i) : RA tc a (sn A 41 i v) (setI S (64 * 9 + 4) (a 9 i) (nI v)) := h.wI hl (by decide) (by decide) (by decide) rfl (CE_of (fun _ _ => rfl) (fun j i q => by rw [tn_sn, if_neg (by omega)]) (fun _ => rfl)) (fun g' i' j' _ => by unfold civ; rw [cv_sn (by decide) (by decide) (by decide) (by decide)]; simp only [rwi_41])
theorem rwi_402 {g j : Nat} : rwc g j = 402 ↔ (g = 6 ∧ j = 6) := by
  constructor
  · intro h
    unfold rwc at h
    split at h <;> first | exact ⟨rfl, rfl⟩ | exact absurd h (by decide)
  · rintro ⟨rfl, rfl⟩
    rfl
theorem rwn_11 {g j : Nat} : rwc g j ≠ 11 := by
  intro h
  unfold rwc at h
  split at h <;> exact absurd h (by decide)
theorem RA.p_6_6 (h : RA tc a A S) {i v : Nat} (hl : lv A 6 i) : RA tc a (sn A 11 i (v + 1)) (setI S (64 * 6 + 6) (a 6 i) (nI v)) := h.wI hl (by decide) (by decide) (by decide) rfl (CE_of (fun _ _ => rfl) (fun j i q => by rw [tn_sn, if_neg (by omega)]) (fun _ => rfl)) (fun g' i' j' _ => by unfold civ; rw [cv_s11 rwn_11]; simp only [rwi_402]; rfl)
theorem rwi_101 {g j : Nat} : rwc g j = 101 ↔ (g = 2 ∧ j = 4) := by
  constructor
  · intro h
    unfold rwc at h
    split at h <;> first | exact ⟨rfl, rfl⟩ | exact absurd h (by decide)
  · rintro ⟨rfl, rfl⟩
    rfl
theorem RA.p_2_4 (h : RA tc a A S) {i : Nat} {v : Int32} (hl : lv A 2 i) : RA tc a (sr A 1 i v) (setI S (64 * 2 + 4) (a 2 i) v) := h.wI hl (by decide) (by decide) (by decide) rfl (CE_of (fun _ _ => rfl) (fun _ _ _ => rfl) (fun i => by rw [tr_sr, if_neg (by omega)])) (fun g' i' j' _ => by unfold civ; rw [cv_sr (by decide) (by decide)]; simp only [show 100 + 1 = 101 from rfl, rwi_101])
theorem rwi_112 {g j : Nat} : rwc g j = 112 ↔ (g = 6 ∧ j = 7) := by
  constructor
  · intro h
    unfold rwc at h
    split at h <;> first | exact ⟨rfl, rfl⟩ | exact absurd h (by decide)
  · rintro ⟨rfl, rfl⟩
    rfl
theorem RA.p_6_7 (h : RA tc a A S) {i : Nat} {v : Int32} (hl : lv A 6 i) : RA tc a (sr A 12 i v) (setI S (64 * 6 + 7) (a 6 i) v) := h.wI hl (by decide) (by decide) (by decide) rfl (CE_of (fun _ _ => rfl) (fun _ _ _ => rfl) (fun i => by rw [tr_sr, if_neg (by omega)])) (fun g' i' j' _ => by unfold civ; rw [cv_sr (by decide) (by decide)]; simp only [show 100 + 12 = 112 from rfl, rwi_112])
theorem rwi_219 {g j : Nat} : rwc g j = 219 ↔ (g = 2 ∧ j = 3) := by
  constructor
  · intro h
    unfold rwc at h
    split at h <;> first | exact ⟨rfl, rfl⟩ | exact absurd h (by decide)
  · rintro ⟨rfl, rfl⟩
    rfl
theorem RA.p_2_3 (h : RA tc a A S) {i : Nat} {v : Bool} (hl : lv A 2 i) : RA tc a (sb A 19 i v) (setI S (64 * 2 + 3) (a 2 i) (bI v)) := h.wI hl (by decide) (by decide) (by decide) rfl (CE_of (fun _ _ => rfl) (fun _ _ _ => rfl) (fun _ => rfl)) (fun g' i' j' _ => by unfold civ; rw [cv_sb (by decide)]; simp only [show 200 + 19 = 219 from rfl, rwi_219])
theorem rwi_225 {g j : Nat} : rwc g j = 225 ↔ (g = 3 ∧ j = 3) := by
  constructor
  · intro h
    unfold rwc at h
    split at h <;> first | exact ⟨rfl, rfl⟩ | exact absurd h (by decide)
  · rintro ⟨rfl, rfl⟩
    rfl
theorem RA.p_3_3 (h : RA tc a A S) {i : Nat} {v : Bool} (hl : lv A 3 i) : RA tc a (sb A 25 i v) (setI S (64 * 3 + 3) (a 3 i) (bI v)) := h.wI hl (by decide) (by decide) (by decide) rfl (CE_of (fun _ _ => rfl) (fun _ _ _ => rfl) (fun _ => rfl)) (fun g' i' j' _ => by unfold civ; rw [cv_sb (by decide)]; simp only [show 200 + 25 = 225 from rfl, rwi_225])
theorem rwi_230 {g j : Nat} : rwc g j = 230 ↔ (g = 5 ∧ j = 7) := by
  constructor
  · intro h
    unfold rwc at h
    split at h <;> first | exact ⟨rfl, rfl⟩ | exact absurd h (by decide)
  · rintro ⟨rfl, rfl⟩
    rfl
theorem RA.p_5_7 (h : RA tc a A S) {i : Nat} {v : Bool} (hl : lv A 5 i) : RA tc a (sb A 30 i v) (setI S (64 * 5 + 7) (a 5 i) (bI v)) := h.wI hl (by decide) (by decide) (by decide) rfl (CE_of (fun _ _ => rfl) (fun _ _ _ => rfl) (fun _ => rfl)) (fun g' i' j' _ => by unfold civ; rw [cv_sb (by decide)]; simp only [show 200 + 30 = 230 from rfl, rwi_230])
theorem rwi_231 {g j : Nat} : rwc g j = 231 ↔ (g = 5 ∧ j = 8) := by
  constructor
  · intro h
    unfold rwc at h
    split at h <;> first | exact ⟨rfl, rfl⟩ | exact absurd h (by decide)
  · rintro ⟨rfl, rfl⟩
    rfl
theorem RA.p_5_8 (h : RA tc a A S) {i : Nat} {v : Bool} (hl : lv A 5 i) : RA tc a (sb A 31 i v) (setI S (64 * 5 + 8) (a 5 i) (bI v)) := h.wI hl (by decide) (by decide) (by decide) rfl (CE_of (fun _ _ => rfl) (fun _ _ _ => rfl) (fun _ => rfl)) (fun g' i' j' _ => by unfold civ; rw [cv_sb (by decide)]; simp only [show 200 + 31 = 231 from rfl, rwi_231])
theorem rwi_242 {g j : Nat} : rwc g j = 242 ↔ (g = 9 ∧ j = 5) := by
  constructor
  · intro h
    unfold rwc at h
    split at h <;> first | exact ⟨rfl, rfl⟩ | exact absurd h (by decide)
  · rintro ⟨rfl, rfl⟩
    rfl
theorem RA.p_9_5 (h : RA tc a A S) {i : Nat} {v : Bool} (hl : lv A 9 i) : RA tc a (sb A 42 i v) (setI S (64 * 9 + 5) (a 9 i) (bI v)) := h.wI hl (by decide) (by decide) (by decide) rfl (CE_of (fun _ _ => rfl) (fun _ _ _ => rfl) (fun _ => rfl)) (fun g' i' j' _ => by unfold civ; rw [cv_sb (by decide)]; simp only [show 200 + 42 = 242 from rfl, rwi_242])
theorem rwi_354 {g j : Nat} : rwc g j = 354 ↔ (g = 7 ∧ j = 1) := by
  constructor
  · intro h
    unfold rwc at h
    split at h <;> first | exact ⟨rfl, rfl⟩ | exact absurd h (by decide)
  · rintro ⟨rfl, rfl⟩
    rfl
theorem RA.p_7_1 (h : RA tc a A S) {v : Nat} : RA tc a (sf A 54 v) (setI S (64 * 7 + 1) (a 7 0) (nI v)) := h.wI (i := 0) (show lv A 7 0 from rfl) (by decide) (by decide) (by decide) rfl (CE_of (fun j q => by rw [tf_sf, if_neg (by omega)]) (fun _ _ _ => rfl) (fun _ => rfl)) (fun g' i' j' hq => by
    unfold civ
    rw [cv_sf (by decide)]
    simp only [show 300 + 54 = 354 from rfl, rwi_354]
    by_cases y : g' = 7 ∧ j' = 1
    · obtain ⟨rfl, rfl⟩ := y
      rw [if_pos ⟨rfl, rfl⟩, if_pos ⟨⟨rfl, rfl⟩, hq⟩]
    · rw [if_neg y, if_neg (fun z => y z.1)])
theorem rwi_315 {g j : Nat} : rwc g j = 315 ↔ (g = 10 ∧ j = 9) := by
  constructor
  · intro h
    unfold rwc at h
    split at h <;> first | exact ⟨rfl, rfl⟩ | exact absurd h (by decide)
  · rintro ⟨rfl, rfl⟩
    rfl
theorem RA.p_10_9 (h : RA tc a A S) {v : Nat} : RA tc a (sf A 15 v) (setI S (64 * 10 + 9) (a 10 0) (nI v)) := h.wI (i := 0) (show lv A 10 0 from rfl) (by decide) (by decide) (by decide) rfl (CE_of (fun j q => by rw [tf_sf, if_neg (by omega)]) (fun _ _ _ => rfl) (fun _ => rfl)) (fun g' i' j' hq => by
    unfold civ
    rw [cv_sf (by decide)]
    simp only [show 300 + 15 = 315 from rfl, rwi_315]
    by_cases y : g' = 10 ∧ j' = 9
    · obtain ⟨rfl, rfl⟩ := y
      rw [if_pos ⟨rfl, rfl⟩, if_pos ⟨⟨rfl, rfl⟩, hq⟩]
    · rw [if_neg y, if_neg (fun z => y z.1)])
theorem rwi_314 {g j : Nat} : rwc g j = 314 ↔ (g = 10 ∧ j = 10) := by
  constructor
  · intro h
    unfold rwc at h
    split at h <;> first | exact ⟨rfl, rfl⟩ | exact absurd h (by decide)
  · rintro ⟨rfl, rfl⟩
    rfl
theorem RA.p_10_10 (h : RA tc a A S) {v : Nat} : RA tc a (sf A 14 v) (setI S (64 * 10 + 10) (a 10 0) (nI v)) := h.wI (i := 0) (show lv A 10 0 from rfl) (by decide) (by decide) (by decide) rfl (CE_of (fun j q => by rw [tf_sf, if_neg (by omega)]) (fun _ _ _ => rfl) (fun _ => rfl)) (fun g' i' j' hq => by
    unfold civ
    rw [cv_sf (by decide)]
    simp only [show 300 + 14 = 314 from rfl, rwi_314]
    by_cases y : g' = 10 ∧ j' = 10
    · obtain ⟨rfl, rfl⟩ := y
      rw [if_pos ⟨rfl, rfl⟩, if_pos ⟨⟨rfl, rfl⟩, hq⟩]
    · rw [if_neg y, if_neg (fun z => y z.1)])
theorem rwn_16 {g j : Nat} : rwc g j ≠ 16 := by
  intro h
  unfold rwc at h
  split at h <;> exact absurd h (by decide)
theorem rwn_32 {g j : Nat} : rwc g j ≠ 32 := by
  intro h
  unfold rwc at h
  split at h <;> exact absurd h (by decide)
theorem rwn_1 {g j : Nat} : rwc g j ≠ 1 := by
  intro h
  unfold rwc at h
  split at h <;> exact absurd h (by decide)
theorem rwn_103 {g j : Nat} : rwc g j ≠ 103 := by
  intro h
  unfold rwc at h
  split at h <;> exact absurd h (by decide)
theorem RA.p_2_1 (h : RA tc a A S) {i t : Nat} (hl : lv A 2 i) (ht : t ≤ tf A 13) : RA tc a (sn A 16 i t) (setP S (64 * 2 + 1) (a 2 i) (opA a t)) := by
  refine h.wP hl (by decide) (by decide) (by decide) rfl (fun g i => ?_) (fun i g j => ?_) (fun _ _ => rfl) (fun i k => ?_) (fun a g i k => ?_) (fun i => ?_) ?_ (fun g' i' j' => ?_)
  · simp [lv, tn_sn, tf_sn]
  · unfold civ
    rw [cv_sn (by decide) (by decide) (by decide) (by decide), if_neg (fun z => rwn_16 z.1)]
  · simp [cav, tn_sn, tr_sn]
  · simp [crv, tn_sn]
  · simp [lsz, tn_sn, tf_sn]
  · obtain ⟨w1, w2, w3, w4, w5, w6, w7, w8⟩ := h.2.2
    refine ⟨w1, w2, fun e he => ?_, fun x hx => ?_, fun x hx => ?_, fun x hx => ?_, fun x hx => ?_, fun w k hw hk => ?_⟩
    · have := w3 e he
      simpa [tn_sn] using this
    · rw [tn_sn]
      split
      · exact ht
      · exact w4 x hx
    · have := w5 x (by simpa [lv, tn_sn, tf_sn] using hx)
      simpa [tn_sn, tf_sn] using this
    · have := w6 x (by simpa [lv, tn_sn, tf_sn] using hx)
      simpa [tn_sn, tf_sn] using this
    · have := w7 x (by simpa [lv, tn_sn, tf_sn] using hx)
      simpa [tn_sn, tf_sn] using this
    · have := w8 w k hw hk
      simpa [tn_sn, tf_sn] using this
  · by_cases q : g' = 2 ∧ j' = 1
    · obtain ⟨rfl, rfl⟩ := q
      show opA a (tn (sn A 16 i t) 16 i') = if _ then _ else opA a (tn A 16 i')
      rw [tn_sn]
      by_cases y : i' = i
      · rw [if_pos ⟨rfl, y⟩, if_pos ⟨⟨rfl, rfl⟩, y⟩]
      · rw [if_neg (fun z => y z.2), if_neg (fun z => y z.2)]
    · rw [if_neg (fun z => q z.1)]
      unfold cpv
      split <;> first | rfl | exact absurd ⟨rfl, rfl⟩ q | simp [tn_sn]
theorem RA.p_val (h : RA tc a A S) {e k : Nat} {v : Int32} (he : e < tf A 38) (hk : k < 16) : RA tc a (sr A 3 (16 * e + k) v) (setA S (a 20 (2 * e)) (upd (zA S (a 20 (2 * e))) k v)) := by
  refine h.wA (i := 2 * e) (k := k) (v := v) (show 2 * e < 2 * tf A 38 by omega) (fun _ _ => Iff.rfl) (fun i g j => ?_) (fun _ _ => rfl) (fun _ _ _ _ => rfl) (fun _ _ _ _ => rfl) (fun _ => rfl) h.2.2 (fun i' k' hk' => ?_)
  · unfold civ
    rw [cv_sr (by decide) (by decide), if_neg (fun z => rwn_103 z.1)]
  · unfold cav
    by_cases q : i' % 2 = 0
    · have hl : k' < 16 := by
        unfold cln at hk'
        rw [if_pos rfl, if_pos q] at hk'
        exact hk'
      rw [if_pos q, if_pos q, tr_sr]
      by_cases y : i' = 2 * e ∧ k' = k
      · rw [if_pos y, if_pos (by omega)]
      · rw [if_neg y, if_neg (by omega)]
    · rw [if_neg q, if_neg q, if_neg (fun z => q (by omega))]
      rfl
theorem RA.p_told (h : RA tc a A S) {e k t : Nat} (he : e < tf A 38) (hk : k < tf A 1) : RA tc a (sn A 32 (3 * e + k) t) (setA S (a 20 (2 * e + 1)) (upd (zA S (a 20 (2 * e + 1))) k (oI t))) := by
  have hf := h.2.2.1.2.1
  refine h.wA (i := 2 * e + 1) (k := k) (v := oI t) (show 2 * e + 1 < 2 * tf A 38 by omega) (fun g i => ?_) (fun i g j => ?_) (fun _ _ => rfl) (fun a i g j => ?_) (fun a g i k => ?_) (fun i => ?_) ?_ (fun i' k' hk' => ?_)
  · simp [lv, tn_sn, tf_sn]
  · unfold civ
    rw [cv_sn (by decide) (by decide) (by decide) (by decide), if_neg (fun z => rwn_32 z.1)]
  · simp [cpv, tn_sn]
  · simp [crv, tn_sn]
  · simp [lsz, tn_sn, tf_sn]
  · simpa [WF, lv, tn_sn, tf_sn] using h.2.2
  · unfold cav
    by_cases q : i' % 2 = 0
    · rw [if_pos q, if_pos q, if_neg (fun z => by omega)]
      rfl
    · have hl : k' < tf A 1 := by
        unfold cln at hk'
        rw [if_pos rfl, if_neg q] at hk'
        exact hk'
      rw [if_neg q, if_neg q, tn_sn]
      by_cases y : i' = 2 * e + 1 ∧ k' = k
      · rw [if_pos y, if_pos (by omega)]
      · rw [if_neg y, if_neg (by omega)]
end
