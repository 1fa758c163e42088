/-! ===== a new master is known ===== -/
def nwM (A : TS) (n : Nat) : TS := (fun h => if h = 38 then n + 1 else A.1 h, fun j i => if (j = 26 ∨ j = 27 ∨ j = 28 ∨ j = 29 ∨ j = 37) ∧ i = n then 0 else if j = 32 ∧ 3 * n ≤ i ∧ i < 3 * n + 3 then 0 else A.2.1 j i, fun j i => if j = 3 ∧ 16 * n ≤ i ∧ i < 16 * n + 16 then 0 else A.2.2.1 j i, fun j i => if j = 30 ∧ i = n then true else if j = 31 ∧ i = n then false else A.2.2.2 j i)
theorem nwM_tf {A : TS} {n j : Nat} : tf (nwM A n) j = if j = 38 then n + 1 else tf A j := rfl
theorem nwM_tn {A : TS} {n j i : Nat} : tn (nwM A n) j i = if (j = 26 ∨ j = 27 ∨ j = 28 ∨ j = 29 ∨ j = 37) ∧ i = n then 0 else if j = 32 ∧ 3 * n ≤ i ∧ i < 3 * n + 3 then 0 else tn A j i := rfl
theorem nwM_tr {A : TS} {n j i : Nat} : tr (nwM A n) j i = if j = 3 ∧ 16 * n ≤ i ∧ i < 16 * n + 16 then 0 else tr A j i := rfl
theorem nwM_tb {A : TS} {n j i : Nat} : tb (nwM A n) j i = if j = 30 ∧ i = n then true else if j = 31 ∧ i = n then false else tb A j i := rfl
def axM (ax : Nat → Nat → Nat) (n q b1 b2 v1 v2 : Nat) : Nat → Nat → Nat := fun g i => if g = 5 ∧ i = n then q else if g = 0 ∧ i = 3 + n then b1 else if g = 0 ∧ i = 15 + n then b2 else if g = 20 ∧ i = 2 * n then v1 else if g = 20 ∧ i = 2 * n + 1 then v2 else ax g i
def ayM (ay : Nat → Nat → Nat) (n t : Nat) : Nat → Nat → Nat := fun g i => if g = 23 ∧ (i = 3 + n ∨ i = 15 + n) then t else if g = 50 ∧ (i = 3 + n ∨ i = 15 + n) then 0 else ay g i
theorem mx_M (ax ay : Nat → Nat → Nat) (n q b1 b2 v1 v2 t : Nat) (g i : Nat) : mx (axM ax n q b1 b2 v1 v2) (ayM ay n t) g i = if g = 5 ∧ i = n then q else if g = 0 ∧ i = 3 + n then b1 else if g = 0 ∧ i = 15 + n then b2 else if g = 20 ∧ i = 2 * n then v1 else if g = 20 ∧ i = 2 * n + 1 then v2 else if g = 23 ∧ (i = 3 + n ∨ i = 15 + n) then t else if g = 50 ∧ (i = 3 + n ∨ i = 15 + n) then 0 else mx ax ay g i := by
  by_cases h4 : g = 4
  · subst h4
    rw [if_neg (by omega), if_neg (by omega), if_neg (by omega), if_neg (by omega), if_neg (by omega), if_neg (by omega), if_neg (by omega)]
    show ayM ay n t 4 i = ay 4 i
    unfold ayM
    rw [if_neg (by omega), if_neg (by omega)]
  by_cases h8 : g = 8
  · subst h8
    rw [if_neg (by omega), if_neg (by omega), if_neg (by omega), if_neg (by omega), if_neg (by omega), if_neg (by omega), if_neg (by omega)]
    show ayM ay n t 8 i = ay 8 i
    unfold ayM
    rw [if_neg (by omega), if_neg (by omega)]
  by_cases h23 : g = 23
  · subst h23
    rw [if_neg (by omega), if_neg (by omega), if_neg (by omega), if_neg (by omega), if_neg (by omega)]
    rfl
  by_cases h50 : g = 50
  · subst h50
    rw [if_neg (by omega), if_neg (by omega), if_neg (by omega), if_neg (by omega), if_neg (by omega)]
    rfl
  have e : ∀ bx by' : Nat → Nat → Nat, mx bx by' g i = bx g i := fun bx by' => by
    unfold mx
    split <;> first | rfl | contradiction
  rw [e, e, if_neg (show ¬ (g = 23 ∧ (i = 3 + n ∨ i = 15 + n)) from fun z => h23 z.1), if_neg (show ¬ (g = 50 ∧ (i = 3 + n ∨ i = 15 + n)) from fun z => h50 z.1)]
  rfl
theorem fty5 {j : Nat} {b : Bool} (h : (fty 5)[j]? = some b) : (b = true ∧ (j = 0 ∨ j = 1 ∨ j = 7 ∨ j = 8 ∨ j = 9 ∨ j = 10 ∨ j = 11)) ∨ (b = false ∧ (j = 2 ∨ j = 3 ∨ j = 4 ∨ j = 5 ∨ j = 6)) := by
  have hl := (List.getElem?_eq_some_iff.mp h).1
  have hl' : j < 12 := hl
  have : j = 0 ∨ j = 1 ∨ j = 2 ∨ j = 3 ∨ j = 4 ∨ j = 5 ∨ j = 6 ∨ j = 7 ∨ j = 8 ∨ j = 9 ∨ j = 10 ∨ j = 11 := by omega
  rcases this with rfl | rfl | rfl | rfl | rfl | rfl | rfl | rfl | rfl | rfl | rfl | rfl <;> (simp [fty] at h; subst h; simp)
def Nm (n g i : Nat) : Prop := (g = 5 ∧ i = n) ∨ (g = 0 ∧ i = 3 + n) ∨ (g = 0 ∧ i = 15 + n) ∨ (g = 20 ∧ i = 2 * n) ∨ (g = 20 ∧ i = 2 * n + 1)
theorem lv_M {A : TS} {n g i : Nat} (h38 : tf A 38 = n) (hn : n < 12) : lv (nwM A n) g i ↔ lv A g i ∨ Nm n g i := by
  have f : ∀ j, j ≠ 38 → tf (nwM A n) j = tf A j := fun j hj => by rw [nwM_tf, if_neg hj]
  have f38 : tf (nwM A n) 38 = n + 1 := by rw [nwM_tf, if_pos rfl]
  have h26 : ∀ x, tn (nwM A n) 26 x = if x = n then 0 else tn A 26 x := fun x => by
    rw [nwM_tn]
    by_cases y : x = n
    · rw [if_pos ⟨by decide, y⟩, if_pos y]
    · rw [if_neg (fun z => y z.2), if_neg y, if_neg (by omega)]
  have h37 : ∀ x, tn (nwM A n) 37 x = if x = n then 0 else tn A 37 x := fun x => by
    rw [nwM_tn]
    by_cases y : x = n
    · rw [if_pos ⟨by decide, y⟩, if_pos y]
    · rw [if_neg (fun z => y z.2), if_neg y, if_neg (by omega)]
  have keep : ∀ g, g ≠ 0 → g ≠ 3 → g ≠ 5 → g ≠ 8 → g ≠ 20 → (lv (nwM A n) g i ↔ lv A g i) := fun g a0 a3 a5 a8 a20 => by
    unfold lv
    split <;> first | exact absurd rfl a0 | exact absurd rfl a3 | exact absurd rfl a5 | exact absurd rfl a8 | exact absurd rfl a20 | simp only [f 1 (by decide), f 13 (by decide), f 53 (by decide)]
  by_cases a0 : g = 0
  · subst a0
    show (i < 3 ∨ (3 ≤ i ∧ i < 3 + tf (nwM A n) 38 ∧ i < 15) ∨ (15 ≤ i ∧ i < 15 + tf (nwM A n) 38)) ↔ (i < 3 ∨ (3 ≤ i ∧ i < 3 + tf A 38 ∧ i < 15) ∨ (15 ≤ i ∧ i < 15 + tf A 38)) ∨ _
    rw [f38, h38]
    unfold Nm
    omega
  by_cases a3 : g = 3
  · subst a3
    show (i / 600 < tf (nwM A n) 38 ∧ i % 600 < tn (nwM A n) 26 (i / 600)) ↔ (i / 600 < tf A 38 ∧ i % 600 < tn A 26 (i / 600)) ∨ _
    rw [f38, h38, h26]
    unfold Nm
    split <;> omega
  by_cases a8 : g = 8
  · subst a8
    show (i / 600 < tf (nwM A n) 38 ∧ i % 600 < tn (nwM A n) 37 (i / 600)) ↔ (i / 600 < tf A 38 ∧ i % 600 < tn A 37 (i / 600)) ∨ _
    rw [f38, h38, h37]
    unfold Nm
    split <;> omega
  by_cases a5 : g = 5
  · subst a5
    show i < tf (nwM A n) 38 ↔ i < tf A 38 ∨ _
    rw [f38, h38]
    unfold Nm
    omega
  by_cases a20 : g = 20
  · subst a20
    show i < 2 * tf (nwM A n) 38 ↔ i < 2 * tf A 38 ∨ _
    rw [f38, h38]
    unfold Nm
    omega
  rw [keep g a0 a3 a5 a8 a20]
  unfold Nm
  exact ⟨Or.inl, fun z => z.elim id (fun z => by omega)⟩
section
variable {tc : Nat → ClassId} {ax ay : Nat → Nat → Nat} {A : TS} {S T : HS}
set_option maxHeartbeats 4000000 in
theorem RA.newmas (h : RA tc (mx ax ay) A S) {n q b1 b2 v1 v2 : Nat} (h38 : tf A 38 = n) (hn : n < 12) (hm : MT tc S T q n (tf A 4) (ax 7 0) b1 b2 v1 v2 (tf A 1)) : RA tc (mx (axM ax n q b1 b2 v1 v2) (ayM ay n (tc 100))) (nwM A n) T := by
  obtain ⟨⟨m1, m2, m3, m4, m5, m6, m7, m8, m9, m10, m11⟩, hb1, hb2, hv1, hv2, m12, n12, v12⟩ := hm
  have hmx := mx_M ax ay n q b1 b2 v1 v2 (tc 100)
  generalize mx (axM ax n q b1 b2 v1 v2) (ayM ay n (tc 100)) = a' at *
  have h' := h.ext m1
  have hW := h.2.2
  obtain ⟨w1, w2, w3, w4, w5, w6, w7, w8⟩ := hW
  have hlv : ∀ g i, lv (nwM A n) g i ↔ lv A g i ∨ Nm n g i := fun g i => lv_M h38 hn
  have f : ∀ j, j ≠ 38 → tf (nwM A n) j = tf A j := fun j hj => by rw [nwM_tf, if_neg hj]
  have f38 : tf (nwM A n) 38 = n + 1 := by rw [nwM_tf, if_pos rfl]
  have tnk : ∀ j i, ¬ ((j = 26 ∨ j = 27 ∨ j = 28 ∨ j = 29 ∨ j = 37) ∧ i = n) → ¬ (j = 32 ∧ 3 * n ≤ i ∧ i < 3 * n + 3) → tn (nwM A n) j i = tn A j i := fun j i p q => by rw [nwM_tn, if_neg p, if_neg q]
  have hdis : ∀ g i, lv A g i → ¬ Nm n g i := fun g i hl hN => by
    rcases hN with ⟨rfl, rfl⟩ | ⟨rfl, rfl⟩ | ⟨rfl, rfl⟩ | ⟨rfl, rfl⟩ | ⟨rfl, rfl⟩
    · have : i < tf A 38 := hl
      omega
    · have : (3 + n < 3 ∨ (3 ≤ 3 + n ∧ 3 + n < 3 + tf A 38 ∧ 3 + n < 15) ∨ (15 ≤ 3 + n ∧ 3 + n < 15 + tf A 38)) := hl
      omega
    · have : (15 + n < 3 ∨ (3 ≤ 15 + n ∧ 15 + n < 3 + tf A 38 ∧ 15 + n < 15) ∨ (15 ≤ 15 + n ∧ 15 + n < 15 + tf A 38)) := hl
      omega
    · have : 2 * n < 2 * tf A 38 := hl
      omega
    · have : 2 * n + 1 < 2 * tf A 38 := hl
      omega
  have ho : ∀ g i, ¬ Nm n g i → g ≠ 23 → g ≠ 50 → a' g i = mx ax ay g i := fun g i hN h1 h2 => by
    unfold Nm at hN
    rw [hmx, if_neg (by omega), if_neg (by omega), if_neg (by omega), if_neg (by omega), if_neg (by omega), if_neg (by omega), if_neg (by omega)]
  have hog : ∀ g i, g ≠ 0 → g ≠ 5 → g ≠ 20 → g ≠ 23 → g ≠ 50 → a' g i = mx ax ay g i := fun g i a0 a5 a20 h1 h2 => ho g i (by unfold Nm; omega) h1 h2
  have hop : ∀ t, opA a' t = opA (mx ax ay) t := fun t => by
    unfold opA
    rw [hog 6 _ (by decide) (by decide) (by decide) (by decide) (by decide)]
  refine h'.adopt (Nm n) hlv (fun g i hN hl => hdis g i hl hN) (fun g i hl => ?_) (fun i hl => ?_) (fun g i j hl => ?_) (fun g i j hl => ?_) (fun g i _ => ?_) (fun i k hl hk => ?_) (fun g i k hl hg hk => ?_) (fun i hl => ?_) ?_ (fun g i hN => ?_) (fun g i j hN hl => ?_) (fun g i j hN hN' e => ?_) (fun g i j hN _ _ hj => ?_) (fun g i j hN _ _ hj => ?_) (fun g i hN hg => ?_) (fun i k hN hk => ?_) (fun g i k hN hg => ?_) (fun i hN => ?_)
  · refine ho g i (hdis g i hl) ?_ ?_ <;> (rintro rfl; exact hl)
  · have hd : ¬ (i = 3 + n ∨ i = 15 + n) := fun z => hdis 0 i hl (by unfold Nm; omega)
    constructor
    · rw [hmx, if_neg (by omega), if_neg (by omega), if_neg (by omega), if_neg (by omega), if_neg (by omega), if_neg (fun z => hd z.2), if_neg (by omega)]
    · rw [hmx, if_neg (by omega), if_neg (by omega), if_neg (by omega), if_neg (by omega), if_neg (by omega), if_neg (by omega), if_neg (fun z => hd z.2)]
  · have hno := rwc_no (g := g) (j := j)
    have key : g = 5 → i ≠ n := fun z y => hdis g i hl (Or.inl ⟨z, y⟩)
    refine civ_eq (fun r q1 _ => tnk r i ?_ (by omega)) (fun r q1 _ => ?_) (fun r q1 _ => ?_) (fun r q1 _ => f r (by omega)) (fun z => ⟨tnk 45 i (by omega) (by omega), ?_, tnk 50 i (by omega) (by omega)⟩) (fun z => tnk 11 i (by omega) (by omega))
    · rintro ⟨y, hi⟩
      by_cases hg : g = 5
      · exact key hg hi
      · have := rwc_5 (j := j) hg
        omega
    · rw [nwM_tr, if_neg (by omega)]
    · by_cases hg : g = 5
      · have := key hg
        rw [nwM_tb, if_neg (by omega), if_neg (by omega)]
      · have := rwc_5 (j := j) hg
        rw [nwM_tb, if_neg (by omega), if_neg (by omega)]
    · rw [nwM_tr, if_neg (by omega)]
  · unfold cpv
    split
    · rw [tnk 16 i (by omega) (by omega), hop]
    · rw [tnk 22 i (by omega) (by omega), hog 6 _ (by decide) (by decide) (by decide) (by decide) (by decide)]
    · rw [tnk 48 i (by omega) (by omega), hop]
    · rw [hog 7 _ (by decide) (by decide) (by decide) (by decide) (by decide)]
    · have : i < tf A 38 := hl
      rw [ho 0 _ (by unfold Nm; omega) (by decide) (by decide)]
    · have : i < tf A 38 := hl
      rw [ho 0 _ (by unfold Nm; omega) (by decide) (by decide)]
    · have : i < tf A 38 := hl
      rw [ho 20 _ (by unfold Nm; omega) (by decide) (by decide)]
    · have : i < tf A 38 := hl
      rw [ho 20 _ (by unfold Nm; omega) (by decide) (by decide)]
    · rw [ho 0 _ (by unfold Nm; omega) (by decide) (by decide)]
    · rw [tnk 33 i (by omega) (by omega), hog 6 _ (by decide) (by decide) (by decide) (by decide) (by decide)]
    · rw [hog 27 _ (by decide) (by decide) (by decide) (by decide) (by decide)]
    · rw [hog 7 _ (by decide) (by decide) (by decide) (by decide) (by decide)]
    · rw [hog 24 _ (by decide) (by decide) (by decide) (by decide) (by decide)]
    · rw [hog 25 _ (by decide) (by decide) (by decide) (by decide) (by decide)]
    · rw [hog 26 _ (by decide) (by decide) (by decide) (by decide) (by decide)]
    · rw [ho 0 _ (by unfold Nm; omega) (by decide) (by decide)]
    · rw [ho 0 _ (by unfold Nm; omega) (by decide) (by decide)]
    · rfl
  · simp only [cln, f 1 (by decide), f 2 (by decide), f 3 (by decide)]
  · have hi : i < 2 * tf A 38 := hl
    have hk' : k < (if i % 2 = 0 then 16 else tf A 1) := hk
    have hf3 := w1.2.1
    unfold cav
    by_cases y : i % 2 = 0
    · rw [if_pos y] at hk'
      rw [if_pos y, if_pos y, nwM_tr, if_neg (by omega)]
    · rw [if_neg y] at hk'
      rw [if_neg y, if_neg y, tnk 32 _ (by omega) (by omega)]
  · unfold crv
    rw [hog 2 _ (by decide) (by decide) (by decide) (by decide) (by decide), hog 1 _ (by decide) (by decide) (by decide) (by decide) (by decide), hog 9 _ (by decide) (by decide) (by decide) (by decide) (by decide), tnk 1 _ (by omega) (by omega), hop]
  · have hi : (i < 3 ∨ (3 ≤ i ∧ i < 3 + tf A 38 ∧ i < 15) ∨ (15 ≤ i ∧ i < 15 + tf A 38)) := hl
    unfold lsz
    rw [f 53 (by decide), f 5 (by decide), f 6 (by decide)]
    by_cases y0 : i = 0
    · rw [if_pos y0, if_pos y0]
    by_cases y1 : i = 1
    · rw [if_neg y0, if_neg y0, if_pos y1, if_pos y1]
    by_cases y2 : i = 2
    · rw [if_neg y0, if_neg y0, if_neg y1, if_neg y1, if_pos y2, if_pos y2]
    by_cases y15 : i < 15
    · rw [if_neg y0, if_neg y0, if_neg y1, if_neg y1, if_neg y2, if_neg y2, if_pos y15, if_pos y15, tnk 26 _ (by omega) (by omega)]
    · rw [if_neg y0, if_neg y0, if_neg y1, if_neg y1, if_neg y2, if_neg y2, if_neg y15, if_neg y15, tnk 37 _ (by omega) (by omega)]
  · have keep : ∀ g i, ¬ Nm n g i → (lv (nwM A n) g i ↔ lv A g i) := fun g i hN => by
      rw [hlv]
      exact ⟨fun z => z.elim id (fun z => absurd z hN), Or.inl⟩
    refine ⟨?_, ?_, fun e he => ?_, fun i hi => ?_, fun i hl => ?_, fun i hl => ?_, fun i hl => ?_, fun w k hw hk => ?_⟩
    · rw [f 1 (by decide), f 2 (by decide), f 3 (by decide)]; exact w1
    · rw [f 5 (by decide), f38, f 6 (by decide), f 13 (by decide), f 53 (by decide)]
      obtain ⟨c1, c2, c3, c4, c5⟩ := w2
      exact ⟨by omega, by omega, c3, c4, c5⟩
    · rw [f38] at he
      by_cases y : e = n
      · rw [nwM_tn, if_pos ⟨by decide, y⟩, nwM_tn, if_pos ⟨by decide, y⟩]
        exact ⟨by decide, by decide⟩
      · rw [tnk 26 e (by omega) (by omega), tnk 37 e (by omega) (by omega)]
        exact w3 e (by omega)
    · rw [tnk 16 i (by omega) (by omega), f 13 (by decide)]
      exact w4 i hi
    · rw [tnk 22 i (by omega) (by omega), f 13 (by decide)]
      exact w5 i ((keep 3 i (by unfold Nm; omega)).mp hl)
    · rw [tnk 48 i (by omega) (by omega), f 13 (by decide)]
      exact w6 i ((keep 4 i (by unfold Nm; omega)).mp hl)
    · rw [tnk 33 i (by omega) (by omega), f 13 (by decide)]
      exact w7 i ((keep 8 i (by unfold Nm; omega)).mp hl)
    · rw [f 1 (by decide)] at hw
      rw [tnk 1 _ (by omega) (by omega), f 13 (by decide)]
      exact w8 w k hw hk
  · rcases hN with ⟨rfl, rfl⟩ | ⟨rfl, rfl⟩ | ⟨rfl, rfl⟩ | ⟨rfl, rfl⟩ | ⟨rfl, rfl⟩
    · rw [hmx, if_pos ⟨rfl, rfl⟩]
      exact ⟨m2, m3⟩
    · rw [hmx, if_neg (by omega), if_pos ⟨rfl, rfl⟩]
      exact ⟨hb1.1, hb1.2.2.2.1⟩
    · rw [hmx, if_neg (by omega), if_neg (by omega), if_pos ⟨rfl, rfl⟩]
      exact ⟨hb2.1, hb2.2.2.2.1⟩
    · rw [hmx, if_neg (by omega), if_neg (by omega), if_neg (by omega), if_pos ⟨rfl, rfl⟩]
      exact ⟨hv1.1, hv1.2.2.2.1⟩
    · rw [hmx, if_neg (by omega), if_neg (by omega), if_neg (by omega), if_neg (by omega), if_pos ⟨rfl, rfl⟩]
      exact ⟨hv2.1, hv2.2.2.2.1⟩
  · have hz := h.mem hl
    intro e
    rw [← e] at hz
    revert hz
    rcases hN with ⟨rfl, rfl⟩ | ⟨rfl, rfl⟩ | ⟨rfl, rfl⟩ | ⟨rfl, rfl⟩ | ⟨rfl, rfl⟩
    · rw [hmx, if_pos ⟨rfl, rfl⟩]
      exact m4
    · rw [hmx, if_neg (by omega), if_pos ⟨rfl, rfl⟩]
      exact hb1.2.1
    · rw [hmx, if_neg (by omega), if_neg (by omega), if_pos ⟨rfl, rfl⟩]
      exact hb2.2.1
    · rw [hmx, if_neg (by omega), if_neg (by omega), if_neg (by omega), if_pos ⟨rfl, rfl⟩]
      exact hv1.2.1
    · rw [hmx, if_neg (by omega), if_neg (by omega), if_neg (by omega), if_neg (by omega), if_pos ⟨rfl, rfl⟩]
      exact hv2.2.1
  · have e1 : a' 0 (3 + n) = b1 := by rw [hmx, if_neg (by omega), if_pos ⟨rfl, rfl⟩]
    have e2 : a' 0 (15 + n) = b2 := by rw [hmx, if_neg (by omega), if_neg (by omega), if_pos ⟨rfl, rfl⟩]
    have e3 : a' 20 (2 * n) = v1 := by rw [hmx, if_neg (by omega), if_neg (by omega), if_neg (by omega), if_pos ⟨rfl, rfl⟩]
    have e4 : a' 20 (2 * n + 1) = v2 := by rw [hmx, if_neg (by omega), if_neg (by omega), if_neg (by omega), if_neg (by omega), if_pos ⟨rfl, rfl⟩]
    rcases hN with ⟨rfl, rfl⟩ | ⟨rfl, rfl⟩ | ⟨rfl, rfl⟩ | ⟨rfl, rfl⟩ | ⟨rfl, rfl⟩ <;> rcases hN' with ⟨z, rfl⟩ | ⟨z, rfl⟩ | ⟨z, rfl⟩ | ⟨z, rfl⟩ | ⟨z, rfl⟩ <;> first | rfl | exact absurd z (by decide) | (rw [e1, e2] at e; exact absurd e n12) | (rw [e2, e1] at e; exact absurd e.symm n12) | (rw [e3, e4] at e; exact absurd e v12) | (rw [e4, e3] at e; exact absurd e.symm v12)
  · have hg : g = 5 ∧ i = n := by
      unfold Nm at hN
      omega
    obtain ⟨rfl, rfl⟩ := hg
    rw [hmx, if_pos ⟨rfl, rfl⟩]
    rcases fty5 hj with ⟨-, rfl | rfl | rfl | rfl | rfl | rfl | rfl⟩ | ⟨z, -⟩
    · exact m5
    · exact m6.trans (by show nI (tf A 4) = nI (tf (nwM A i) 4); rw [f 4 (by decide)])
    · exact m12.trans (by show bI true = bI (tb (nwM A i) 30 i); rw [nwM_tb, if_pos ⟨rfl, rfl⟩])
    · exact m8.trans (by show 0 = bI (tb (nwM A i) 31 i); rw [nwM_tb, if_neg (by omega), if_pos ⟨rfl, rfl⟩]; rfl)
    · exact m9.trans (by show 0 = nI (tn (nwM A i) 27 i); rw [nwM_tn, if_pos ⟨by decide, rfl⟩]; rfl)
    · exact m10.trans (by show 0 = nI (tn (nwM A i) 28 i); rw [nwM_tn, if_pos ⟨by decide, rfl⟩]; rfl)
    · exact m11.trans (by show 0 = nI (tn (nwM A i) 29 i); rw [nwM_tn, if_pos ⟨by decide, rfl⟩]; rfl)
    · exact absurd z (by decide)
  · have hg : g = 5 ∧ i = n := by
      unfold Nm at hN
      omega
    obtain ⟨rfl, rfl⟩ := hg
    rw [hmx 5, if_pos ⟨rfl, rfl⟩]
    rcases fty5 hj with ⟨z, -⟩ | ⟨-, rfl | rfl | rfl | rfl | rfl⟩
    · exact absurd z (by decide)
    · exact m7.trans (by show some (ax 7 0) = some (a' 7 0); rw [hog 7 _ (by decide) (by decide) (by decide) (by decide) (by decide)]; rfl)
    · exact hb1.2.2.2.2.2.2.trans (by show some b1 = some (a' 0 (3 + i)); rw [hmx, if_neg (by omega), if_pos ⟨rfl, rfl⟩])
    · exact hb2.2.2.2.2.2.2.trans (by show some b2 = some (a' 0 (15 + i)); rw [hmx, if_neg (by omega), if_neg (by omega), if_pos ⟨rfl, rfl⟩])
    · exact hv1.2.2.2.2.2.2.trans (by show some v1 = some (a' 20 (2 * i)); rw [hmx, if_neg (by omega), if_neg (by omega), if_neg (by omega), if_pos ⟨rfl, rfl⟩])
    · exact hv2.2.2.2.2.2.2.trans (by show some v2 = some (a' 20 (2 * i + 1)); rw [hmx, if_neg (by omega), if_neg (by omega), if_neg (by omega), if_neg (by omega), if_pos ⟨rfl, rfl⟩])
  · have hg20 : g = 20 ∧ (i = 2 * n ∨ i = 2 * n + 1) := by
      unfold Nm at hN
      omega
    obtain ⟨rfl, rfl | rfl⟩ := hg20
    · rw [hmx, if_neg (by omega), if_neg (by omega), if_neg (by omega), if_pos ⟨rfl, rfl⟩, hv1.2.2.2.2.1]
      show 16 = if (2 * n) % 2 = 0 then 16 else _
      rw [if_pos (by omega)]
    · rw [hmx, if_neg (by omega), if_neg (by omega), if_neg (by omega), if_neg (by omega), if_pos ⟨rfl, rfl⟩, hv2.2.2.2.2.1]
      show tf A 1 = if (2 * n + 1) % 2 = 0 then 16 else tf (nwM A n) 1
      rw [if_neg (by omega), f 1 (by decide)]
  · have hi : i = 2 * n ∨ i = 2 * n + 1 := by
      unfold Nm at hN
      omega
    have hk' : k < (if i % 2 = 0 then 16 else tf (nwM A n) 1) := hk
    rw [f 1 (by decide)] at hk'
    have hf3 := w1.2.1
    rcases hi with rfl | rfl
    · rw [if_pos (by omega)] at hk'
      rw [hmx, if_neg (by omega), if_neg (by omega), if_neg (by omega), if_pos ⟨rfl, rfl⟩, hv1.2.2.2.2.2.1 k hk']
      show 0 = if (2 * n) % 2 = 0 then tr (nwM A n) 3 (16 * (2 * n / 2) + k) else _
      rw [if_pos (by omega), nwM_tr, if_pos (by omega)]
    · rw [if_neg (by omega)] at hk'
      rw [hmx, if_neg (by omega), if_neg (by omega), if_neg (by omega), if_neg (by omega), if_pos ⟨rfl, rfl⟩, hv2.2.2.2.2.2.1 k hk']
      show oI 0 = if (2 * n + 1) % 2 = 0 then _ else oI (tn (nwM A n) 32 (3 * ((2 * n + 1) / 2) + k))
      rw [if_neg (by omega), nwM_tn, if_neg (by omega), if_pos (by omega)]
  · unfold Nm at hN
    omega
  · have hi : i = 3 + n ∨ i = 15 + n := by
      unfold Nm at hN
      omega
    have e50 : a' 50 i = 0 := by
      rw [hmx, if_neg (by omega), if_neg (by omega), if_neg (by omega), if_neg (by omega), if_neg (by omega), if_neg (by omega), if_pos ⟨rfl, hi⟩]
    have e23 : a' 23 i = tc 100 := by
      rw [hmx, if_neg (by omega), if_neg (by omega), if_neg (by omega), if_neg (by omega), if_neg (by omega), if_pos ⟨rfl, hi⟩]
    have hls : lsz (nwM A n) i = 0 := by
      unfold lsz
      rw [if_neg (by omega), if_neg (by omega), if_neg (by omega)]
      rcases hi with rfl | rfl
      · rw [if_pos (by omega), nwM_tn, if_pos (by omega)]
      · rw [if_neg (by omega), nwM_tn, if_pos (by omega)]
    refine ⟨?_, hls, e50⟩
    rw [e23]
    rcases hi with rfl | rfl
    · rw [hmx, if_neg (by omega), if_pos ⟨rfl, rfl⟩]
      exact ⟨hb1.1, hb1.2.2.2.1, hb1.2.2.2.2.1, hb1.2.2.2.2.2.1, Nat.le_refl _, by decide, Or.inl ⟨rfl, rfl⟩⟩
    · rw [hmx, if_neg (by omega), if_neg (by omega), if_pos ⟨rfl, rfl⟩]
      exact ⟨hb2.1, hb2.2.2.2.1, hb2.2.2.2.2.1, hb2.2.2.2.2.2.1, Nat.le_refl _, by decide, Or.inl ⟨rfl, rfl⟩⟩
end
