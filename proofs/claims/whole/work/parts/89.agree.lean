/-! ===== two states that agree on all that is live; a state for both sides ===== -/
theorem rwc1' (j : Nat) : rwc 1 j = 400 ∨ rwc 1 j = 39 ∨ rwc 1 j = 40 ∨ rwc 1 j = 999 := by
  have key : ∀ g, g = 1 → (rwc g j = 400 ∨ rwc g j = 39 ∨ rwc g j = 40 ∨ rwc g j = 999) := by
    intro g hg
    unfold rwc
    split <;> first | exact absurd hg (by decide) | decide
  exact key 1 rfl
theorem rwc2' (j : Nat) : rwc 2 j = 17 ∨ rwc 2 j = 18 ∨ rwc 2 j = 219 ∨ rwc 2 j = 101 ∨ rwc 2 j = 21 ∨ rwc 2 j = 999 := by
  have key : ∀ g, g = 2 → (rwc g j = 17 ∨ rwc g j = 18 ∨ rwc g j = 219 ∨ rwc g j = 101 ∨ rwc g j = 21 ∨ rwc g j = 999) := by
    intro g hg
    unfold rwc
    split <;> first | exact absurd hg (by decide) | decide
  exact key 2 rfl
theorem rwc3' (j : Nat) : rwc 3 j = 123 ∨ rwc 3 j = 224 ∨ rwc 3 j = 225 ∨ rwc 3 j = 999 := by
  have key : ∀ g, g = 3 → (rwc g j = 123 ∨ rwc g j = 224 ∨ rwc g j = 225 ∨ rwc g j = 999) := by
    intro g hg
    unfold rwc
    split <;> first | exact absurd hg (by decide) | decide
  exact key 3 rfl
theorem rwc5' (j : Nat) : rwc 5 j = 400 ∨ rwc 5 j = 304 ∨ rwc 5 j = 230 ∨ rwc 5 j = 231 ∨ rwc 5 j = 27 ∨ rwc 5 j = 28 ∨ rwc 5 j = 29 ∨ rwc 5 j = 999 := by
  have key : ∀ g, g = 5 → (rwc g j = 400 ∨ rwc g j = 304 ∨ rwc g j = 230 ∨ rwc g j = 231 ∨ rwc g j = 27 ∨ rwc g j = 28 ∨ rwc g j = 29 ∨ rwc g j = 999) := by
    intro g hg
    unfold rwc
    split <;> first | exact absurd hg (by decide) | decide
  exact key 5 rfl
theorem rwc6' (j : Nat) : rwc 6 j = 5 ∨ rwc 6 j = 6 ∨ rwc 6 j = 7 ∨ rwc 6 j = 8 ∨ rwc 6 j = 109 ∨ rwc 6 j = 10 ∨ rwc 6 j = 402 ∨ rwc 6 j = 112 ∨ rwc 6 j = 999 := by
  have key : ∀ g, g = 6 → (rwc g j = 5 ∨ rwc g j = 6 ∨ rwc g j = 7 ∨ rwc g j = 8 ∨ rwc g j = 109 ∨ rwc g j = 10 ∨ rwc g j = 402 ∨ rwc g j = 112 ∨ rwc g j = 999) := by
    intro g hg
    unfold rwc
    split <;> first | exact absurd hg (by decide) | decide
  exact key 6 rfl
theorem rwc7' (j : Nat) : rwc 7 j = 354 ∨ rwc 7 j = 999 := by
  have key : ∀ g, g = 7 → (rwc g j = 354 ∨ rwc g j = 999) := by
    intro g hg
    unfold rwc
    split <;> first | exact absurd hg (by decide) | decide
  exact key 7 rfl
theorem rwc9' (j : Nat) : rwc 9 j = 400 ∨ rwc 9 j = 302 ∨ rwc 9 j = 303 ∨ rwc 9 j = 41 ∨ rwc 9 j = 242 ∨ rwc 9 j = 999 := by
  have key : ∀ g, g = 9 → (rwc g j = 400 ∨ rwc g j = 302 ∨ rwc g j = 303 ∨ rwc g j = 41 ∨ rwc g j = 242 ∨ rwc g j = 999) := by
    intro g hg
    unfold rwc
    split <;> first | exact absurd hg (by decide) | decide
  exact key 9 rfl
theorem rwc10' (j : Nat) : rwc 10 j = 302 ∨ rwc 10 j = 303 ∨ rwc 10 j = 304 ∨ rwc 10 j = 315 ∨ rwc 10 j = 314 ∨ rwc 10 j = 999 := by
  have key : ∀ g, g = 10 → (rwc g j = 302 ∨ rwc g j = 303 ∨ rwc g j = 304 ∨ rwc g j = 315 ∨ rwc g j = 314 ∨ rwc g j = 999) := by
    intro g hg
    unfold rwc
    split <;> first | exact absurd hg (by decide) | decide
  exact key 10 rfl
/-- X agrees with B on all that B's heap shows -/
def AG (X B : TS) : Prop :=
  (∀ j, j ≠ 0 → tf X j = tf B j) ∧
  (∀ e, e < tf B 38 → tn X 26 e = tn B 26 e ∧ tn X 37 e = tn B 37 e ∧ tn X 27 e = tn B 27 e ∧ tn X 28 e = tn B 28 e ∧ tn X 29 e = tn B 29 e ∧ tb X 30 e = tb B 30 e ∧ tb X 31 e = tb B 31 e ∧ (∀ k, k < tf B 1 → tn X 32 (3 * e + k) = tn B 32 (3 * e + k)) ∧ ∀ k, k < 16 → tr X 3 (16 * e + k) = tr B 3 (16 * e + k)) ∧
  (∀ i, i < tf B 1 → tn X 39 i = tn B 39 i ∧ tn X 40 i = tn B 40 i ∧ tn X 41 i = tn B 41 i ∧ tb X 42 i = tb B 42 i ∧ ∀ k, k < 16 → tn X 1 (16 * i + k) = tn B 1 (16 * i + k)) ∧
  (∀ i, i < 4 → tn X 16 i = tn B 16 i ∧ tn X 17 i = tn B 17 i ∧ tn X 18 i = tn B 18 i ∧ tn X 21 i = tn B 21 i ∧ tb X 19 i = tb B 19 i ∧ tr X 1 i = tr B 1 i) ∧
  (∀ i, i < tf B 13 → tn X 5 i = tn B 5 i ∧ tn X 6 i = tn B 6 i ∧ tn X 7 i = tn B 7 i ∧ tn X 8 i = tn B 8 i ∧ tn X 10 i = tn B 10 i ∧ tn X 11 i = tn B 11 i ∧ tr X 9 i = tr B 9 i ∧ tr X 12 i = tr B 12 i) ∧
  (∀ e k, e < tf B 38 → k < tn B 26 e → k < 600 → tn X 22 (600 * e + k) = tn B 22 (600 * e + k) ∧ tr X 23 (600 * e + k) = tr B 23 (600 * e + k) ∧ tb X 24 (600 * e + k) = tb B 24 (600 * e + k) ∧ tb X 25 (600 * e + k) = tb B 25 (600 * e + k)) ∧
  (∀ i, i < tf B 53 → (∀ j, 45 ≤ j → j ≤ 50 → tn X j i = tn B j i) ∧ tr X 51 i = tr B 51 i ∧ tb X 52 i = tb B 52 i) ∧
  (∀ e k, e < tf B 38 → k < tn B 37 e → k < 600 → tn X 33 (600 * e + k) = tn B 33 (600 * e + k) ∧ tn X 34 (600 * e + k) = tn B 34 (600 * e + k) ∧ tn X 35 (600 * e + k) = tn B 35 (600 * e + k) ∧ tn X 36 (600 * e + k) = tn B 36 (600 * e + k) ∧ tr X 2 (600 * e + k) = tr B 2 (600 * e + k))
theorem lv_cs {A : TS} {g i : Nat} (h : lv A g i) : g = 0 ∨ g = 1 ∨ g = 2 ∨ g = 3 ∨ g = 4 ∨ g = 5 ∨ g = 6 ∨ g = 7 ∨ g = 8 ∨ g = 9 ∨ g = 10 ∨ g = 20 ∨ g = 24 ∨ g = 25 ∨ g = 26 ∨ g = 27 := by
  unfold lv at h
  split at h <;> first | exact h.elim | omega
theorem div600 (i : Nat) : 600 * (i / 600) + i % 600 = i := by omega
set_option maxHeartbeats 4000000 in
theorem RA_cong {tc : Nat → ClassId} {a : Nat → Nat → Nat} {X B : TS} {S : HS} (h : RA tc a B S) (ag : AG X B) : RA tc a X S := by
  obtain ⟨g0, g1, g2, g3, g4, g5, g6, g7⟩ := ag
  have hW := h.2.2
  obtain ⟨w1, w2, w3, w4, w5, w6, w7, w8⟩ := hW
  have s5 : ∀ i, i / 600 < tf B 38 → i % 600 < tn B 26 (i / 600) → tn X 22 i = tn B 22 i ∧ tr X 23 i = tr B 23 i ∧ tb X 24 i = tb B 24 i ∧ tb X 25 i = tb B 25 i := fun i h1 h2 => by
    have := g5 (i / 600) (i % 600) h1 h2 (Nat.mod_lt _ (by decide))
    rwa [div600] at this
  have s7 : ∀ i, i / 600 < tf B 38 → i % 600 < tn B 37 (i / 600) → tn X 33 i = tn B 33 i ∧ tn X 34 i = tn B 34 i ∧ tn X 35 i = tn B 35 i ∧ tn X 36 i = tn B 36 i ∧ tr X 2 i = tr B 2 i := fun i h1 h2 => by
    have := g7 (i / 600) (i % 600) h1 h2 (Nat.mod_lt _ (by decide))
    rwa [div600] at this
  have hlv : ∀ g i, lv X g i ↔ lv B g i := fun g i => by
    by_cases a3 : g = 3
    · subst a3
      show (i / 600 < tf X 38 ∧ i % 600 < tn X 26 (i / 600)) ↔ (i / 600 < tf B 38 ∧ i % 600 < tn B 26 (i / 600))
      rw [g0 38 (by decide)]
      exact and_congr_right (fun z => by rw [(g1 _ z).1])
    by_cases a8 : g = 8
    · subst a8
      show (i / 600 < tf X 38 ∧ i % 600 < tn X 37 (i / 600)) ↔ (i / 600 < tf B 38 ∧ i % 600 < tn B 37 (i / 600))
      rw [g0 38 (by decide)]
      exact and_congr_right (fun z => by rw [(g1 _ z).2.1])
    unfold lv
    split <;> first | exact absurd rfl a3 | exact absurd rfl a8 | simp only [g0 38 (by decide), g0 1 (by decide), g0 13 (by decide), g0 53 (by decide)]
  refine h.adopt (fun _ _ => False) (fun g i => (hlv g i).trans ⟨Or.inl, fun z => z.elim id False.elim⟩) (fun _ _ z => z.elim) (fun _ _ _ => rfl) (fun _ _ => ⟨rfl, rfl⟩) (fun g i j hl => ?_) (fun g i j hl => ?_) (fun g i _ => ?_) (fun i k hl hk => ?_) (fun g i k hl hg hk => ?_) (fun i hl => ?_) ?_ (fun _ _ z => z.elim) (fun _ _ _ z => z.elim) (fun _ _ _ z => z.elim) (fun _ _ _ z => z.elim) (fun _ _ _ z => z.elim) (fun _ _ z => z.elim) (fun _ _ z => z.elim) (fun _ _ _ z => z.elim) (fun _ z => z.elim)
  · show cv X (rwc g j) i = cv B (rwc g j) i
    rcases lv_cs hl with rfl | rfl | rfl | rfl | rfl | rfl | rfl | rfl | rfl | rfl | rfl | rfl | rfl | rfl | rfl | rfl
    · rfl
    · have := g2 i hl
      rcases rwc1' j with e | e | e | e <;> rw [e]
      · rfl
      · rw [cv_0 (by decide), cv_0 (by decide), this.1]
      · rw [cv_0 (by decide), cv_0 (by decide), this.2.1]
      · rfl
    · have := g3 i hl
      rcases rwc2' j with e | e | e | e | e | e <;> rw [e]
      · rw [cv_0 (by decide), cv_0 (by decide), this.2.1]
      · rw [cv_0 (by decide), cv_0 (by decide), this.2.2.1]
      · rw [cv_2 (by decide) (by decide), cv_2 (by decide) (by decide), this.2.2.2.2.1]
      · rw [cv_1 (by decide) (by decide), cv_1 (by decide) (by decide), this.2.2.2.2.2]
      · rw [cv_0 (by decide), cv_0 (by decide), this.2.2.2.1]
      · rfl
    · have := s5 i hl.1 hl.2
      rcases rwc3' j with e | e | e | e <;> rw [e]
      · rw [cv_1 (by decide) (by decide), cv_1 (by decide) (by decide), this.2.1]
      · rw [cv_2 (by decide) (by decide), cv_2 (by decide) (by decide), this.2.2.1]
      · rw [cv_2 (by decide) (by decide), cv_2 (by decide) (by decide), this.2.2.2]
      · rfl
    · obtain ⟨n, r, b⟩ := g6 i hl
      rcases rwc4 j with e | e | e | e | e | e | e <;> rw [e]
      · rw [cv_0 (by decide), cv_0 (by decide), n 45 (by decide) (by decide)]
      · rw [cv_0 (by decide), cv_0 (by decide), n 46 (by decide) (by decide)]
      · rw [cv_0 (by decide), cv_0 (by decide), n 47 (by decide) (by decide)]
      · rw [cv_0 (by decide), cv_0 (by decide), n 49 (by decide) (by decide)]
      · rw [cv_401, cv_401, n 45 (by decide) (by decide), n 50 (by decide) (by decide), r]
      · rw [cv_2 (by decide) (by decide), cv_2 (by decide) (by decide), b]
      · rfl
    · have := g1 i hl
      rcases rwc5' j with e | e | e | e | e | e | e | e <;> rw [e]
      · rfl
      · rw [cv_3 (by decide) (by decide), cv_3 (by decide) (by decide), g0 _ (by decide)]
      · rw [cv_2 (by decide) (by decide), cv_2 (by decide) (by decide), this.2.2.2.2.2.1]
      · rw [cv_2 (by decide) (by decide), cv_2 (by decide) (by decide), this.2.2.2.2.2.2.1]
      · rw [cv_0 (by decide), cv_0 (by decide), this.2.2.1]
      · rw [cv_0 (by decide), cv_0 (by decide), this.2.2.2.1]
      · rw [cv_0 (by decide), cv_0 (by decide), this.2.2.2.2.1]
      · rfl
    · have := g4 i hl
      rcases rwc6' j with e | e | e | e | e | e | e | e | e <;> rw [e]
      · rw [cv_0 (by decide), cv_0 (by decide), this.1]
      · rw [cv_0 (by decide), cv_0 (by decide), this.2.1]
      · rw [cv_0 (by decide), cv_0 (by decide), this.2.2.1]
      · rw [cv_0 (by decide), cv_0 (by decide), this.2.2.2.1]
      · rw [cv_1 (by decide) (by decide), cv_1 (by decide) (by decide), this.2.2.2.2.2.2.1]
      · rw [cv_0 (by decide), cv_0 (by decide), this.2.2.2.2.1]
      · rw [cv_402, cv_402, this.2.2.2.2.2.1]
      · rw [cv_1 (by decide) (by decide), cv_1 (by decide) (by decide), this.2.2.2.2.2.2.2]
      · rfl
    · rcases rwc7' j with e | e <;> rw [e]
      · rw [cv_3 (by decide) (by decide), cv_3 (by decide) (by decide), g0 _ (by decide)]
      · rfl
    · have := s7 i hl.1 hl.2
      rcases rwc8 j with e | e | e | e | e <;> rw [e]
      · rw [cv_0 (by decide), cv_0 (by decide), this.2.1]
      · rw [cv_0 (by decide), cv_0 (by decide), this.2.2.1]
      · rw [cv_0 (by decide), cv_0 (by decide), this.2.2.2.1]
      · rw [cv_1 (by decide) (by decide), cv_1 (by decide) (by decide), this.2.2.2.2]
      · rfl
    · have := g2 i hl
      rcases rwc9' j with e | e | e | e | e | e <;> rw [e]
      · rfl
      · rw [cv_3 (by decide) (by decide), cv_3 (by decide) (by decide), g0 _ (by decide)]
      · rw [cv_3 (by decide) (by decide), cv_3 (by decide) (by decide), g0 _ (by decide)]
      · rw [cv_0 (by decide), cv_0 (by decide), this.2.2.1]
      · rw [cv_2 (by decide) (by decide), cv_2 (by decide) (by decide), this.2.2.2.1]
      · rfl
    · rcases rwc10' j with e | e | e | e | e | e <;> rw [e]
      · rw [cv_3 (by decide) (by decide), cv_3 (by decide) (by decide), g0 _ (by decide)]
      · rw [cv_3 (by decide) (by decide), cv_3 (by decide) (by decide), g0 _ (by decide)]
      · rw [cv_3 (by decide) (by decide), cv_3 (by decide) (by decide), g0 _ (by decide)]
      · rw [cv_3 (by decide) (by decide), cv_3 (by decide) (by decide), g0 _ (by decide)]
      · rw [cv_3 (by decide) (by decide), cv_3 (by decide) (by decide), g0 _ (by decide)]
      · rfl
    all_goals rfl
  · unfold cpv
    split
    · rw [(g3 i hl).1]
    · rw [(s5 i hl.1 hl.2).1]
    · rw [(g6 i hl).1 48 (by decide) (by decide)]
    · rfl
    · rfl
    · rfl
    · rfl
    · rfl
    · rfl
    · rw [(s7 i hl.1 hl.2).1]
    all_goals rfl
  · simp only [cln, g0 1 (by decide), g0 2 (by decide), g0 3 (by decide)]
  · have hi : i < 2 * tf B 38 := hl
    have hk' : k < (if i % 2 = 0 then 16 else tf B 1) := hk
    have q := g1 (i / 2) (by omega)
    unfold cav
    by_cases y : i % 2 = 0
    · rw [if_pos y] at hk'
      rw [if_pos y, if_pos y, q.2.2.2.2.2.2.2.2 k hk']
    · rw [if_neg y] at hk'
      rw [if_neg y, if_neg y, q.2.2.2.2.2.2.2.1 k hk']
  · rcases lv_24 hl hg with rfl | rfl | rfl | ⟨rfl, hi⟩
    · rfl
    · rfl
    · rfl
    · have hk' : k < tf B 2 * tf B 3 := hk
      have h16 : tf B 2 * tf B 3 ≤ 4 * 4 := Nat.mul_le_mul w1.2.2.2.1 w1.2.2.2.2.2
      show opA a (tn X 1 (16 * i + k)) = opA a (tn B 1 (16 * i + k))
      rw [(g2 i hi).2.2.2.2 k (by omega)]
  · have hi : (i < 3 ∨ (3 ≤ i ∧ i < 3 + tf B 38 ∧ i < 15) ∨ (15 ≤ i ∧ i < 15 + tf B 38)) := hl
    unfold lsz
    rw [g0 53 (by decide), g0 5 (by decide), g0 6 (by decide)]
    by_cases y0 : i = 0
    · rw [if_pos y0, if_pos y0]
    by_cases y1 : i = 1
    · rw [if_neg y0, if_neg y0, if_pos y1, if_pos y1]
    by_cases y2 : i = 2
    · rw [if_neg y0, if_neg y0, if_neg y1, if_neg y1, if_pos y2, if_pos y2]
    by_cases y15 : i < 15
    · rw [if_neg y0, if_neg y0, if_neg y1, if_neg y1, if_neg y2, if_neg y2, if_pos y15, if_pos y15, (g1 (i - 3) (by omega)).1]
    · rw [if_neg y0, if_neg y0, if_neg y1, if_neg y1, if_neg y2, if_neg y2, if_neg y15, if_neg y15, (g1 (i - 15) (by omega)).2.1]
  · refine ⟨?_, ?_, fun e he => ?_, fun i hi => ?_, fun i hl => ?_, fun i hl => ?_, fun i hl => ?_, fun w k hw hk => ?_⟩
    · rw [g0 1 (by decide), g0 2 (by decide), g0 3 (by decide)]; exact w1
    · rw [g0 5 (by decide), g0 38 (by decide), g0 6 (by decide), g0 13 (by decide), g0 53 (by decide)]; exact w2
    · rw [g0 38 (by decide)] at he
      rw [(g1 e he).1, (g1 e he).2.1]
      exact w3 e he
    · rw [(g3 i hi).1, g0 13 (by decide)]
      exact w4 i hi
    · have hl' := (hlv 3 i).mp hl
      rw [(s5 i hl'.1 hl'.2).1, g0 13 (by decide)]
      exact w5 i hl'
    · have hl' := (hlv 4 i).mp hl
      rw [(g6 i hl').1 48 (by decide) (by decide), g0 13 (by decide)]
      exact w6 i hl'
    · have hl' := (hlv 8 i).mp hl
      rw [(s7 i hl'.1 hl'.2).1, g0 13 (by decide)]
      exact w7 i hl'
    · rw [g0 1 (by decide)] at hw
      rw [(g2 w hw).2.2.2.2 k hk, g0 13 (by decide)]
      exact w8 w k hw hk
/-- the reference's rows of X, the class's own rows of B -/
def mrg (X B : TS) : TS := (fun j => if j = 5 ∨ j = 6 then tf B j else tf X j, fun j i => if j = 1 then tn B j i else tn X j i, fun j i => if j = 1 ∨ j = 2 ∨ j = 3 then tr B j i else tr X j i, X.2.2.2)
theorem mrg_tf {X B : TS} {j : Nat} : tf (mrg X B) j = if j = 5 ∨ j = 6 then tf B j else tf X j := rfl
theorem mrg_tn {X B : TS} {j i : Nat} : tn (mrg X B) j i = if j = 1 then tn B j i else tn X j i := rfl
theorem mrg_tr {X B : TS} {j i : Nat} : tr (mrg X B) j i = if j = 1 ∨ j = 2 ∨ j = 3 then tr B j i else tr X j i := rfl
theorem mrg_tb {X B : TS} {j i : Nat} : tb (mrg X B) j i = tb X j i := rfl
theorem fty11 {j : Nat} {b : Bool} (h : (fty 11)[j]? = some b) : (b = true → j ≠ 5 ∧ j ≠ 6) ∧ (b = false → 5 ≤ j) := by
  have hl : j < 55 := ftyI h
  have key : ∀ k : Fin 55, ∀ b : Bool, (fty 11)[k.val]? = some b → ((b = true → k.val ≠ 5 ∧ k.val ≠ 6) ∧ (b = false → 5 ≤ k.val)) := by decide +kernel
  exact key ⟨j, hl⟩ b h
theorem MW_mrg {am : Nat} {ad : Nat → Nat} {X : TS} {S : HS} (h : MW am ad X S) (B : TS) : MW am ad (mrg X B) S := by
  obtain ⟨h1, h2, h3, h4, h5⟩ := h
  refine ⟨h1, h2, fun j hj => ?_, fun j hj => ?_, h5⟩
  · have := (fty11 hj).1 rfl
    rw [mrg_tf, if_neg (by omega)]
    exact h3 j hj
  · have hj5 := (fty11 hj).2 rfl
    obtain ⟨q1, q2, q3, q4, q5⟩ := h4 j hj
    refine ⟨q1, q2, q3, q4, fun i hi => ?_⟩
    rw [q5 i hi]
    unfold mval
    rw [mrg_tb, mrg_tr, mrg_tn, if_neg (show ¬ (j = 1 ∨ j = 2 ∨ j = 3) by omega), if_neg (show ¬ j = 1 by omega)]
