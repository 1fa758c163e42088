/-! ===== records, collecting, resets: both sides ===== -/
section
variable {K : Nat} {A B X : TS}
theorem iWit.of (h : ∀ w, w < tf A 1 → WI A w) : iWit A := h
theorem INV.wi {w : Nat} (h : INV K A) (hw : w < tf A 1) : WI A w := h.2.2.2.2.2.2.2.2.2.2.2.1 w hw
/-- a witness that shows the same -/
theorem WI.same {w : Nat} (h : WI A w) (f13 : tf X 13 = tf A 13) (f2 : tf X 2 = tf A 2) (f3 : tf X 3 = tf A 3) (n7 : ∀ i, tn X 7 i = tn A 7 i) (n8 : ∀ i, tn X 8 i = tn A 8 i) (n44 : tn X 44 w = tn A 44 w) (n43 : ∀ k, k < tn A 44 w → tn X 43 (16 * w + k) = tn A 43 (16 * w + k)) (n1 : ∀ i, i < tf A 2 * tf A 3 → tn X 1 (16 * w + i) = tn A 1 (16 * w + i)) : WI X w := by
  obtain ⟨q1, q2, q3, q4⟩ := h
  unfold WI
  rw [f13, f2, f3, n44]
  refine ⟨fun k hk => ?_, fun i hi hz => ?_, fun i j hi hj hzi hzj he => ?_, fun k l hk hl he => ?_⟩
  · rw [n43 k hk]
    obtain ⟨a, i, hi, e⟩ := q1 k hk
    exact ⟨a, i, hi, by rw [n1 i hi]; exact e⟩
  · rw [n1 i hi] at hz ⊢
    obtain ⟨⟨k, hk, e⟩, b, c⟩ := q2 i hi hz
    rw [n7, n8]
    exact ⟨⟨k, hk, by rw [n43 k hk]; exact e⟩, b, c⟩
  · rw [n1 i hi] at hzi he
    rw [n1 j hj] at hzj he
    rw [n8, n8] at he
    exact q3 i j hi hj hzi hzj he
  · rw [n43 k hk, n43 l hl] at he
    exact q4 k l hk hl he
/-- a record is taken -/
theorem WI.rec {w op i0 : Nat} (h : WI A w) (hN : iNum A) (ho : op < tf A 13) (hu : tn A 7 op ≠ 2) (hno : ∀ i, i < tf A 2 * tf A 3 → tn A 1 (16 * w + i) ≠ op + 1) (hkn : ∀ i, i < tf A 2 * tf A 3 → tn A 1 (16 * w + i) ≠ 0 → tn A 8 (tn A 1 (16 * w + i) - 1) ≠ tn A 8 op) (hi0 : i0 < tf A 2 * tf A 3) (hz0 : tn A 1 (16 * w + i0) = 0) (hd : i0 / tf A 3 = tn A 8 op % tf A 2) : WI (sn (sn (sn A 43 (16 * w + tn A 44 w) op) 44 w (tn A 44 w + 1)) 1 (16 * w + i0) (op + 1)) w := by
  have n16 := N16 hN
  have hm := h.m1 hi0 hz0
  obtain ⟨q1, q2, q3, q4⟩ := h
  generalize hX : sn (sn (sn A 43 (16 * w + tn A 44 w) op) 44 w (tn A 44 w + 1)) 1 (16 * w + i0) (op + 1) = X
  have x44 : tn X 44 w = tn A 44 w + 1 := by rw [← hX, tn_sn, if_neg (by omega), tn_sn, if_pos ⟨rfl, rfl⟩]
  have x43 : ∀ k, tn X 43 (16 * w + k) = if k = tn A 44 w then op else tn A 43 (16 * w + k) := fun k => by
    rw [← hX, tn_sn, if_neg (by omega), tn_sn, if_neg (by omega), tn_sn]
    by_cases y : k = tn A 44 w
    · rw [if_pos ⟨rfl, by omega⟩, if_pos y]
    · rw [if_neg (by omega), if_neg y]
  have x1 : ∀ i, tn X 1 (16 * w + i) = if i = i0 then op + 1 else tn A 1 (16 * w + i) := fun i => by
    rw [← hX, tn_sn]
    by_cases y : i = i0
    · rw [if_pos ⟨rfl, by omega⟩, if_pos y]
    · rw [if_neg (by omega), if_neg y, tn_sn, if_neg (by omega), tn_sn, if_neg (by omega)]
  have x7 : ∀ i, tn X 7 i = tn A 7 i := fun i => by rw [← hX, tn_sn, if_neg (by omega), tn_sn, if_neg (by omega), tn_sn, if_neg (by omega)]
  have x8 : ∀ i, tn X 8 i = tn A 8 i := fun i => by rw [← hX, tn_sn, if_neg (by omega), tn_sn, if_neg (by omega), tn_sn, if_neg (by omega)]
  have f : ∀ j, tf X j = tf A j := fun j => by rw [← hX]; rfl
  unfold WI
  rw [f, f, f, x44]
  have e1 : op + 1 - 1 = op := by omega
  refine ⟨fun k hk => ?_, fun i hi hz => ?_, fun i j hi hj hzi hzj he => ?_, fun k l hk hl he => ?_⟩
  · rw [x43]
    split
    · exact ⟨ho, i0, hi0, by rw [x1, if_pos rfl]⟩
    · obtain ⟨a, i, hi, e⟩ := q1 k (by omega)
      refine ⟨a, i, hi, ?_⟩
      rw [x1, if_neg (fun z => by rw [z, hz0] at e; omega)]
      exact e
  · rw [x1] at hz ⊢
    rw [x7, x8]
    by_cases y : i = i0
    · rw [if_pos y, e1, y]
      exact ⟨⟨tn A 44 w, by omega, by rw [x43, if_pos rfl]⟩, hu, hd⟩
    · rw [if_neg y] at hz ⊢
      obtain ⟨⟨k, hk, e⟩, b, c⟩ := q2 i hi hz
      exact ⟨⟨k, by omega, by rw [x43, if_neg (by omega)]; exact e⟩, b, c⟩
  · rw [x1] at hzi he
    rw [x1] at hzj he
    rw [x8, x8] at he
    by_cases y : i = i0
    · by_cases z : j = i0
      · omega
      · rw [if_neg z] at hzj
        rw [if_pos y, if_neg z, e1] at he
        exact absurd he.symm (hkn j hj hzj)
    · rw [if_neg y] at hzi
      by_cases z : j = i0
      · rw [if_neg y, if_pos z, e1] at he
        exact absurd he (hkn i hi hzi)
      · rw [if_neg z] at hzj
        rw [if_neg y, if_neg z] at he
        exact q3 i j hi hj hzi hzj he
  · rw [x43, x43] at he
    have old : ∀ k, k < tn A 44 w → tn A 43 (16 * w + k) ≠ op := fun k hk z => by
      obtain ⟨-, i, hi, e⟩ := q1 k hk
      exact hno i hi (by omega)
    split at he <;> split at he
    · omega
    · exact absurd he.symm (old l (by omega))
    · exact absurd he (old k (by omega))
    · exact q4 k l (by omega) (by omega) he
theorem mrg_rec {w op i0 : Nat} : mrg (sn (sn A 43 (16 * w + tn A 44 w) op) 44 w (tn A 44 w + 1)) (sn A 1 (16 * w + i0) (op + 1)) = sn (sn (sn A 43 (16 * w + tn A 44 w) op) 44 w (tn A 44 w + 1)) 1 (16 * w + i0) (op + 1) := by
  have h1 : ∀ j, (if j = 5 ∨ j = 6 then tf A j else tf A j) = tf A j := fun j => by split <;> rfl
  have h2 : ∀ j i, (if j = 1 ∨ j = 2 ∨ j = 3 then tr A j i else tr A j i) = tr A j i := fun j i => by split <;> rfl
  have h3 : ∀ j i, tn (mrg (sn (sn A 43 (16 * w + tn A 44 w) op) 44 w (tn A 44 w + 1)) (sn A 1 (16 * w + i0) (op + 1))) j i = tn (sn (sn (sn A 43 (16 * w + tn A 44 w) op) 44 w (tn A 44 w + 1)) 1 (16 * w + i0) (op + 1)) j i := fun j i => by
    rw [mrg_tn, tn_sn, tn_sn, tn_sn, tn_sn, tn_sn, tn_sn]
    by_cases y : j = 1
    · rw [if_pos y, if_neg (show ¬ (j = 44 ∧ i = w) by omega), if_neg (show ¬ (j = 43 ∧ i = 16 * w + tn A 44 w) by omega)]
    · rw [if_neg y, if_neg (show ¬ (j = 1 ∧ i = 16 * w + i0) by omega)]
  refine Prod.ext (funext (fun j => h1 j)) (Prod.ext (funext (fun j => funext (fun i => h3 j i))) (Prod.ext (funext (fun j => funext (fun i => h2 j i))) rfl))
theorem rec_ok {w e op : Nat} (h : INV K A) (hm : iMom A) (hw : w < tf A 1) (he : e < tf A 38) (ho : op < tf A 13) (hu : tn A 7 op ≠ 2) : ∃ X, EQ (recF A w e op) X ∧ AG X (wrcC A w e op) ∧ INV (K + 2) X ∧ iMom X ∧ tf X 13 = tf A 13 := by
  have hN := h.1
  have hwi := h.wi hw
  have n16 := N16 hN
  have k7 := h.k7
  have h3 := hN.2.2.2.2.2.2.2.1
  have h600 := hN.2.2.2.2.1
  -- what both decide
  have key : (recB A w e op = true ∧ rrF A w e op ≠ 0 ∧ recA A w e op = A ∧ rrA A w e op = A) ∨ (recB A w e op = false ∧ rrF A w e op = 0 ∧ recA A w e op = A ∧ rrA A w e op = A) ∨ (recB A w e op = true ∧ rrF A w e op ≠ 0 ∧ ∃ i0, recA A w e op = sn (sn A 43 (16 * w + tn A 44 w) op) 44 w (tn A 44 w + 1) ∧ rrA A w e op = sn A 1 (16 * w + i0) (op + 1) ∧ i0 < tf A 2 * tf A 3 ∧ tn A 1 (16 * w + i0) = 0 ∧ i0 / tf A 3 = tn A 8 op % tf A 2 ∧ (∀ i, i < tf A 2 * tf A 3 → tn A 1 (16 * w + i) ≠ op + 1) ∧ (∀ i, i < tf A 2 * tf A 3 → tn A 1 (16 * w + i) ≠ 0 → tn A 8 (tn A 1 (16 * w + i) - 1) ≠ tn A 8 op)) := by
    by_cases c : tn A 41 w = e ∧ tb A 42 w = false
    · have hB : recB A w e op = (holdF A w op || roomF A w (tn A 8 op)) := by
        unfold recB
        rw [decide_eq_true c.1, c.2]
        simp
      have hR : rrF A w e op = (if rrD A w op (tn A 8 op % tf A 2 * tf A 3) (tf A 3) = 1 then 1 else if rrD A w op (tn A 8 op % tf A 2 * tf A 3) (tf A 3) = 2 then 0 else if frW A w (tn A 8 op % tf A 2 * tf A 3) (tf A 3) = 0 then 0 else frW A w (tn A 8 op % tf A 2 * tf A 3) (tf A 3) + 1) := by
        unfold rrF
        rw [if_pos c]
      rcases rec_cs (op := op) hN hwi with ⟨a, b⟩ | ⟨a, b, d⟩ | ⟨a, f, b, d⟩ | ⟨a, b, d, g1, g2, i0, g3, g4, g5, g6⟩
      · rw [a, if_pos rfl] at hR
        rw [b, Bool.true_or] at hB
        refine Or.inl ⟨hB, by rw [hR]; decide, ?_, ?_⟩
        · unfold recA
          rw [if_neg (fun z => by rw [b] at z; exact absurd z.2 (by decide))]
        · unfold rrA
          rw [hR, if_neg (by decide)]
      · rw [a, if_neg (by decide), if_pos rfl] at hR
        rw [b, d, Bool.false_or] at hB
        refine Or.inr (Or.inl ⟨hB, hR, ?_, ?_⟩)
        · unfold recA
          rw [if_neg (fun z => by rw [hB] at z; exact absurd z.1 (by decide))]
        · unfold rrA
          rw [hR, if_neg (by decide)]
      · rw [a, if_neg (by decide), if_neg (by decide), if_pos f] at hR
        rw [b, d, Bool.false_or] at hB
        refine Or.inr (Or.inl ⟨hB, hR, ?_, ?_⟩)
        · unfold recA
          rw [if_neg (fun z => by rw [hB] at z; exact absurd z.1 (by decide))]
        · unfold rrA
          rw [hR, if_neg (by decide)]
      · rw [a, if_neg (by decide), if_neg (by decide), g4, if_neg (by omega)] at hR
        rw [b, d, Bool.or_true] at hB
        refine Or.inr (Or.inr ⟨hB, by omega, i0, ?_, ?_, g3, g5, g6, g1, g2⟩)
        · unfold recA
          rw [if_pos ⟨hB, b⟩]
        · unfold rrA
          rw [hR, if_pos (by omega), show i0 + 1 + 1 - 2 = i0 by omega]
    · have hB : recB A w e op = false := by
        unfold recB
        rw [← Bool.not_eq_true]
        intro z
        rw [Bool.and_eq_true, Bool.and_eq_true, decide_eq_true_eq] at z
        exact c ⟨z.1, by simpa using z.2.1⟩
      have hR : rrF A w e op = 0 := by
        unfold rrF
        rw [if_neg c]
      refine Or.inr (Or.inl ⟨hB, hR, ?_, ?_⟩)
      · unfold recA
        rw [if_neg (fun z => by rw [hB] at z; exact absurd z.1 (by decide))]
      · unfold rrA
        rw [hR, if_neg (by decide)]
  unfold recF wrcC
  have n5 := h.nb.2 5 op
  have n6 := h.nb.2 6 op
  rcases key with ⟨b, r, eA, eC⟩ | ⟨b, r, eA, eC⟩ | ⟨b, r, i0, eA, eC, g3, g4, g5, g6, g7⟩
  · rw [b, if_pos rfl, if_pos r, eA, eC]
    exact ⟨_, EQ.rfl, rlq.AG rlq.rfl, (h.send (LET_cl (Or.inr (Or.inl rfl)) he ho hw) (by omega) (by omega) (by omega)).mono (by omega), hm.send, send_13⟩
  · rw [b, r, if_neg (by decide), if_neg (fun z => z rfl), eA, eC]
    exact ⟨_, EQ.rfl, rlq.AG rlq.rfl, (h.send (LET_cl (Or.inr (Or.inr rfl)) he ho hw) (by omega) (by omega) (by omega)).mono (by omega), hm.send, send_13⟩
  · rw [b, if_pos rfl, if_pos r, eA, eC]
    have hmw := hwi.m1 g3 g4
    have hX := hwi.rec hN ho hu g6 g7 g3 g4 g5
    have e2 : EQ2 (sn (sn A 43 (16 * w + tn A 44 w) op) 44 w (tn A 44 w + 1)) (sn A 1 (16 * w + i0) (op + 1)) := by
      refine ⟨fun _ _ _ _ => rfl, fun j i a b c => ?_, fun _ _ _ _ _ _ => rfl, fun _ _ => rfl⟩
      rw [tn_sn, tn_sn, tn_sn, if_neg (by omega), if_neg (by omega), if_neg (by omega)]
    have qm := rlq.mrg e2
    have qe := EQ.mrg (sn (sn A 43 (16 * w + tn A 44 w) op) 44 w (tn A 44 w + 1)) (sn A 1 (16 * w + i0) (op + 1))
    rw [mrg_rec] at qm qe
    have d : df (sn (sn (sn A 43 (16 * w + tn A 44 w) op) 44 w (tn A 44 w + 1)) 1 (16 * w + i0) (op + 1)) A [] [1, 41, 43, 44] [] [42] := (df_sn.trans (df_sn.trans df_sn)).mono (by decide) (by decide) (by decide) (by decide)
    have hI : INV K (sn (sn (sn A 43 (16 * w + tn A 44 w) op) 44 w (tn A 44 w + 1)) 1 (16 * w + i0) (op + 1)) := by
      refine h.wit d ⟨rfl, fun j a b i => ?_⟩ (((h.nb.sn (by omega)).sn (by omega)).sn (by omega)) (Nat.le_refl _) (iWit.of (fun x hx => ?_))
      · rw [tn_sn, if_neg (by omega), tn_sn, if_neg (by omega), tn_sn, if_neg (by omega)]
      · by_cases y : x = w
        · rw [y]; exact hX
        · have hx' : x < tf A 1 := hx
          have q := h.wi hx'
          have hmx := q.m
          refine q.same rfl rfl rfl (fun i => ?_) (fun i => ?_) ?_ (fun k hk => ?_) (fun i hi => ?_)
          · rw [tn_sn, if_neg (by omega), tn_sn, if_neg (by omega), tn_sn, if_neg (by omega)]
          · rw [tn_sn, if_neg (by omega), tn_sn, if_neg (by omega), tn_sn, if_neg (by omega)]
          · rw [tn_sn, if_neg (by omega), tn_sn, if_neg (by omega), tn_sn, if_neg (by omega)]
          · rw [tn_sn, if_neg (by omega), tn_sn, if_neg (by omega), tn_sn, if_neg (by omega)]
          · rw [tn_sn, if_neg (by omega), tn_sn, if_neg (by omega), tn_sn, if_neg (by omega)]
    have hm1 : iMom (sn (sn (sn A 43 (16 * w + tn A 44 w) op) 44 w (tn A 44 w + 1)) 1 (16 * w + i0) (op + 1)) := hm.df d (by decide) (by decide) (by decide)
    have p5 : ∀ i, tn (sn (sn (sn A 43 (16 * w + tn A 44 w) op) 44 w (tn A 44 w + 1)) 1 (16 * w + i0) (op + 1)) 5 i = tn A 5 i := d.2.1 5 (by decide) (by decide)
    have l := LET_cl (A := sn (sn (sn A 43 (16 * w + tn A 44 w) op) 44 w (tn A 44 w + 1)) 1 (16 * w + i0) (op + 1)) (s := 3) (e := e) (op := op) (n := tn A 6 op) (c := w) (Or.inr (Or.inl rfl)) he ho hw
    rw [p5] at l
    generalize sn (sn (sn A 43 (16 * w + tn A 44 w) op) 44 w (tn A 44 w + 1)) 1 (16 * w + i0) (op + 1) = Y at *
    generalize sn A 1 (16 * w + i0) (op + 1) = C at *
    have f13 : tf Y 13 = tf A 13 := d.1 13 (by decide)
    exact ⟨sendF Y 3 e (tn A 5 op) (op + 1) (tn A 6 op) w (nI 0) false, qe.send _ _ _ _ _ _ _ _, rlq.AG (qm.send (by decide) (by decide) _ _ _ _ _ _ _ _), (hI.send l (by omega) (by omega) (by omega)).mono (by omega), hm1.send, send_13.trans f13⟩
/-! collecting -/
def drB (A : TS) (e n op : Nat) : Bool := !(decide (placeF A e op ≠ 0) && decide (placeF A e op ≤ n))
theorem gcL_row {w e n : Nat} : ∀ k, (gcL A w e n k).2 = cnP (fun i => drB A e n (tn A 43 (16 * w + i))) k ∧ (∀ i, i < k → drB A e n (tn A 43 (16 * w + i)) = true → tn (gcL A w e n k).1 43 (16 * w + cnP (fun i => drB A e n (tn A 43 (16 * w + i))) i) = tn A 43 (16 * w + i))
  | 0 => ⟨rfl, fun i hi => absurd hi (Nat.not_lt_zero _)⟩
  | k + 1 => by
    obtain ⟨p1, p2⟩ := gcL_row (w := w) (e := e) (n := n) k
    obtain ⟨i1, i2, i3, i4, i5, i6⟩ := gcL_inv A w e n k
    have hpl : ∀ op, placeF (gcL A w e n k).1 e op = placeF A e op := fun op => placeF_same e op (fun i => i3 22 i (by decide)) (i3 26 e (by decide))
    have hk : tn (gcL A w e n k).1 43 (16 * w + k) = tn A 43 (16 * w + k) := i4 _ (by omega)
    have ec : cnP (fun i => drB A e n (tn A 43 (16 * w + i))) (k + 1) = if drB A e n (tn A 43 (16 * w + k)) = true then cnP (fun i => drB A e n (tn A 43 (16 * w + i))) k + 1 else cnP (fun i => drB A e n (tn A 43 (16 * w + i))) k := rfl
    rw [ec]
    unfold gcL gcS
    rw [hk, hpl]
    by_cases y : placeF A e (tn A 43 (16 * w + k)) ≠ 0 ∧ placeF A e (tn A 43 (16 * w + k)) ≤ n
    · have hd : drB A e n (tn A 43 (16 * w + k)) = false := by
        unfold drB
        rw [decide_eq_true y.1, decide_eq_true y.2]
        rfl
      rw [if_pos y, hd, if_neg (by decide)]
      refine ⟨p1, fun i hi hr => ?_⟩
      by_cases z : i = k
      · rw [z, hd] at hr; cases hr
      · exact p2 i (by omega) hr
    · have hd : drB A e n (tn A 43 (16 * w + k)) = true := by
        unfold drB
        by_cases y1 : placeF A e (tn A 43 (16 * w + k)) ≠ 0
        · rw [decide_eq_false (fun z => y ⟨y1, z⟩), Bool.and_false]
          rfl
        · rw [decide_eq_false y1, Bool.false_and]
          rfl
      rw [if_neg y, hd, if_pos rfl]
      refine ⟨by show (gcL A w e n k).2 + 1 = _; rw [p1], fun i hi hr => ?_⟩
      show tn (sn (gcL A w e n k).1 43 (16 * w + (gcL A w e n k).2) (tn A 43 (16 * w + k))) 43 _ = _
      rw [tn_sn, p1]
      by_cases z : i = k
      · rw [z, if_pos ⟨rfl, rfl⟩]
      · have := cnP_lt (P := fun i => drB A e n (tn A 43 (16 * w + i))) (show i < k by omega) hr
        rw [if_neg (by omega)]
        exact p2 i (by omega) hr
theorem drL_row {w e n : Nat} : ∀ k, (∀ j, tf (drL A w e n k) j = tf A j) ∧ (∀ j i, j ≠ 1 → tn (drL A w e n k) j i = tn A j i) ∧ (∀ j i, tr (drL A w e n k) j i = tr A j i) ∧ (∀ j i, tb (drL A w e n k) j i = tb A j i) ∧ (∀ x, x < 16 * w ∨ 16 * w + k ≤ x → tn (drL A w e n k) 1 x = tn A 1 x) ∧ (∀ i, i < k → tn (drL A w e n k) 1 (16 * w + i) = if tn A 1 (16 * w + i) ≠ 0 ∧ drB A e n (tn A 1 (16 * w + i) - 1) = false then 0 else tn A 1 (16 * w + i))
  | 0 => ⟨fun _ => rfl, fun _ _ _ => rfl, fun _ _ => rfl, fun _ _ => rfl, fun _ _ => rfl, fun i hi => absurd hi (Nat.not_lt_zero _)⟩
  | k + 1 => by
    obtain ⟨p1, p2, p3, p4, p5, p6⟩ := drL_row (w := w) (e := e) (n := n) k
    have hk : plW (drL A w e n k) w k = tn A 1 (16 * w + k) := p5 _ (by omega)
    have dd : drB A e n (tn A 1 (16 * w + k) - 1) = false ↔ (placeF A e (tn A 1 (16 * w + k) - 1) ≠ 0 ∧ placeF A e (tn A 1 (16 * w + k) - 1) ≤ n) := by
      unfold drB
      rw [Bool.not_eq_false', Bool.and_eq_true, decide_eq_true_eq, decide_eq_true_eq]
    unfold drL
    rw [hk]
    by_cases y : tn A 1 (16 * w + k) ≠ 0 ∧ placeF A e (tn A 1 (16 * w + k) - 1) ≠ 0 ∧ placeF A e (tn A 1 (16 * w + k) - 1) ≤ n
    · rw [if_pos y]
      refine ⟨p1, fun j i a => by rw [tn_sn, if_neg (by omega)]; exact p2 j i a, p3, p4, fun x hx => by rw [tn_sn, if_neg (by omega)]; exact p5 x (by omega), fun i hi => ?_⟩
      rw [tn_sn]
      by_cases z : i = k
      · rw [if_pos ⟨rfl, by omega⟩, z, if_pos ⟨y.1, dd.mpr y.2⟩]
      · rw [if_neg (by omega)]
        exact p6 i (by omega)
    · rw [if_neg y]
      refine ⟨p1, p2, p3, p4, fun x hx => p5 x (by omega), fun i hi => ?_⟩
      by_cases z : i = k
      · rw [z, if_neg (fun t => y ⟨t.1, dd.mp t.2⟩)]
        exact p5 _ (by omega)
      · exact p6 i (by omega)
theorem gc_ok {w e n : Nat} (h : INV K A) (hm : iMom A) (hw : w < tf A 1) : ∃ X, EQ (gcF A w e n) X ∧ AG X (wgcC A w e n) ∧ INV (K + 2) X ∧ iMom X ∧ tf X 13 = tf A 13 := by
  unfold gcF wgcC
  rcases Decidable.em (tn A 41 w ≠ e) with c | c
  · rw [if_neg c, if_neg c]
    exact ⟨A, EQ.rfl, rlq.AG rlq.rfl, h.mono (by omega), hm, rfl⟩
  have c : tn A 41 w = e := Decidable.of_not_not c
  rw [if_pos c, if_pos c]
  have hN := h.1
  have n16 := N16 hN
  have hwi := h.wi hw
  have hmm := hwi.m
  obtain ⟨g1, g2⟩ := gcL_row (A := A) (w := w) (e := e) (n := n) (tn A 44 w)
  obtain ⟨i1, i2, i3, i4, i5, i6⟩ := gcL_inv A w e n (tn A 44 w)
  obtain ⟨d1, d2, d3, d4, d5, d6⟩ := drL_row (A := A) (w := w) (e := e) (n := n) (tf A 2 * tf A 3)
  have gnb := gcL_NB (w := w) (e := e) (n := n) h.nb (tn A 44 w)
  generalize gcL A w e n (tn A 44 w) = G at *
  generalize drL A w e n (tf A 2 * tf A 3) = C at *
  have e2 : EQ2 (sn G.1 44 w G.2) C := by
    refine ⟨fun j _ _ _ => (i2 j).trans (d1 j).symm, fun j i a b f => ?_, fun j i _ _ _ _ => (i5 j i).trans (d3 j i).symm, fun j i => (i6 j i).trans (d4 j i).symm⟩
    rw [tn_sn, if_neg (by omega), i3 j i b, d2 j i a]
  have x1 : ∀ j, tf (mrg (sn G.1 44 w G.2) C) j = tf A j := fun j => by
    rw [mrg_tf]
    split
    · exact d1 j
    · exact i2 j
  have x2 : ∀ j i, j ≠ 1 → j ≠ 43 → j ≠ 44 → tn (mrg (sn G.1 44 w G.2) C) j i = tn A j i := fun j i a b f => by
    rw [mrg_tn, if_neg a, tn_sn, if_neg (by omega), i3 j i b]
  have x3 : ∀ j i, tr (mrg (sn G.1 44 w G.2) C) j i = tr A j i := fun j i => by
    rw [mrg_tr]
    split
    · exact d3 j i
    · exact i5 j i
  have x4 : ∀ j i, tb (mrg (sn G.1 44 w G.2) C) j i = tb A j i := fun j i => i6 j i
  have y1 : ∀ x, tn (mrg (sn G.1 44 w G.2) C) 1 x = tn C 1 x := fun x => by rw [mrg_tn, if_pos rfl]
  have y43 : ∀ x, tn (mrg (sn G.1 44 w G.2) C) 43 x = tn G.1 43 x := fun x => by rw [mrg_tn, if_neg (by decide), tn_sn, if_neg (by omega)]
  have y44 : ∀ x, tn (mrg (sn G.1 44 w G.2) C) 44 x = if x = w then G.2 else tn A 44 x := fun x => by
    rw [mrg_tn, if_neg (by decide), tn_sn]
    by_cases z : x = w
    · rw [if_pos ⟨rfl, z⟩, if_pos z]
    · rw [if_neg (fun t => z t.2), if_neg z, i3 44 x (by decide)]
  have nbc : ∀ x, tn C 1 x ≤ K := fun x => by
    by_cases z : x < 16 * w ∨ 16 * w + tf A 2 * tf A 3 ≤ x
    · rw [d5 x z]; exact h.nb.2 _ _
    · have := d6 (x - 16 * w) (by omega)
      rw [show 16 * w + (x - 16 * w) = x by omega] at this
      rw [this]
      split
      · omega
      · exact h.nb.2 _ _
  have gK : G.2 ≤ K := by have := h.nb.2 44 w; omega
  refine ⟨mrg (sn G.1 44 w G.2) C, EQ.mrg _ _, e2.ag, ?_, hm.same (x1 14) (fun i => x2 10 i (by decide) (by decide) (by decide)) (fun i => x2 11 i (by decide) (by decide) (by decide)), x1 13⟩
  generalize hX : mrg (sn G.1 44 w G.2) C = X at *
  have d : df X A [] [1, 41, 43, 44] [] [42] := ⟨fun j _ => x1 j, fun j _ hj i => by
    simp only [List.mem_cons, List.not_mem_nil, or_false, not_or] at hj
    exact x2 j i hj.1 hj.2.2.1 hj.2.2.2, fun j _ _ i => x3 j i, fun j _ _ i => x4 j i⟩
  refine h.wit d ⟨x1 53, fun j a b i => x2 j i (by omega) (by omega) (by omega)⟩ ⟨fun j => by rw [x1]; exact Nat.le_trans (h.nb.1 j) (by omega), fun j i => ?_⟩ (by omega) (iWit.of (fun x hx => ?_))
  · by_cases z1 : j = 1
    · rw [z1, y1]; have := nbc i; omega
    · by_cases z2 : j = 43
      · rw [z2, y43]; have := gnb.2 43 i; omega
      · by_cases z3 : j = 44
        · rw [z3, y44]
          split
          · omega
          · have := h.nb.2 44 i; omega
        · rw [x2 j i z1 z2 z3]; have := h.nb.2 j i; omega
  · rw [x1] at hx
    by_cases y : x = w
    · subst y
      obtain ⟨q1, q2, q3, q4⟩ := hwi
      unfold WI
      rw [x1, x1, x1, y44, if_pos rfl]
      simp only [y1, y43, x2 7 _ (by decide) (by decide) (by decide), x2 8 _ (by decide) (by decide) (by decide)]
      have back : ∀ p, p < G.2 → ∃ i, i < tn A 44 x ∧ drB A e n (tn A 43 (16 * x + i)) = true ∧ cnP (fun i => drB A e n (tn A 43 (16 * x + i))) i = p ∧ tn G.1 43 (16 * x + p) = tn A 43 (16 * x + i) := fun p hp => by
        rw [g1] at hp
        obtain ⟨i, a, b, f⟩ := cnP_ex _ _ _ hp
        exact ⟨i, a, b, f, by rw [← f]; exact g2 i a b⟩
      refine ⟨fun p hp => ?_, fun i hi hz => ?_, fun i j hi hj hzi hzj he => ?_, fun p p' hp hp' he => ?_⟩
      · obtain ⟨i, a, b, -, f⟩ := back p hp
        rw [f]
        obtain ⟨t, i', hi', e'⟩ := q1 i a
        refine ⟨t, i', hi', ?_⟩
        rw [d6 i' hi', e', if_neg (fun z => ?_)]
        rw [show tn A 43 (16 * x + i) + 1 - 1 = tn A 43 (16 * x + i) by omega, b] at z
        exact absurd z.2 (by decide)
      · rw [d6 i hi] at hz ⊢
        by_cases z : tn A 1 (16 * x + i) ≠ 0 ∧ drB A e n (tn A 1 (16 * x + i) - 1) = false
        · rw [if_pos z] at hz
          exact absurd rfl hz
        · rw [if_neg z] at hz ⊢
          obtain ⟨⟨k, hk, e'⟩, b, f⟩ := q2 i hi hz
          refine ⟨?_, b, f⟩
          have hdr : drB A e n (tn A 43 (16 * x + k)) = true := by
            rw [← Bool.not_eq_false]
            intro t
            refine z ⟨hz, ?_⟩
            rw [← e', show tn A 43 (16 * x + k) + 1 - 1 = tn A 43 (16 * x + k) by omega]
            exact t
          refine ⟨cnP (fun i => drB A e n (tn A 43 (16 * x + i))) k, by rw [g1]; exact cnP_lt hk hdr, ?_⟩
          rw [g2 k hk hdr]
          exact e'
      · rw [d6 i hi] at hzi he
        rw [d6 j hj] at hzj he
        by_cases z : tn A 1 (16 * x + i) ≠ 0 ∧ drB A e n (tn A 1 (16 * x + i) - 1) = false
        · rw [if_pos z] at hzi
          exact absurd rfl hzi
        · by_cases z' : tn A 1 (16 * x + j) ≠ 0 ∧ drB A e n (tn A 1 (16 * x + j) - 1) = false
          · rw [if_pos z'] at hzj
            exact absurd rfl hzj
          · rw [if_neg z] at hzi he
            rw [if_neg z'] at hzj he
            exact q3 i j hi hj hzi hzj he
      · obtain ⟨i, a, b, f, g⟩ := back p hp
        obtain ⟨i', a', b', f', g'⟩ := back p' hp'
        rw [g, g'] at he
        rw [← f, ← f', q4 i i' a a' he]
    · have q := h.wi hx
      have hmx := q.m
      refine q.same (x1 13) (x1 2) (x1 3) (fun i => x2 7 i (by decide) (by decide) (by decide)) (fun i => x2 8 i (by decide) (by decide) (by decide)) (by rw [y44, if_neg y]) (fun k hk => ?_) (fun i hi => ?_)
      · rw [y43]
        exact i4 _ (by omega)
      · rw [y1]
        exact d5 _ (by omega)
/-! reset -/
theorem clP_row {w : Nat} : ∀ k, (∀ j, tf (clP A w k) j = tf A j) ∧ (∀ j i, tn (clP A w k) j i = if j = 1 ∧ 16 * w ≤ i ∧ i < 16 * w + k then 0 else tn A j i) ∧ (∀ j i, tr (clP A w k) j i = tr A j i) ∧ (∀ j i, tb (clP A w k) j i = tb A j i)
  | 0 => ⟨fun _ => rfl, fun j i => by rw [if_neg (by omega)]; rfl, fun _ _ => rfl, fun _ _ => rfl⟩
  | k + 1 => by
    obtain ⟨p1, p2, p3, p4⟩ := clP_row (w := w) k
    unfold clP
    refine ⟨p1, fun j i => ?_, p3, p4⟩
    rw [tn_sn, p2]
    by_cases y : j = 1 ∧ i = 16 * w + k
    · rw [if_pos y, if_pos (by omega)]
    · rw [if_neg y]
      by_cases z : j = 1 ∧ 16 * w ≤ i ∧ i < 16 * w + k
      · rw [if_pos z, if_pos (by omega)]
      · rw [if_neg z, if_neg (by omega)]
theorem reset_ok {w e : Nat} (h : INV K A) (hm : iMom A) (hw : w < tf A 1) (he : e < tf A 38) : ∃ X, EQ (rstF A w e) X ∧ AG X (wrsC A w e) ∧ INV (K + 2) X ∧ iMom X ∧ tf X 13 = tf A 13 := by
  unfold rstF wrsC
  have n16 := N16 h.1
  have e38 := h.nb.1 38
  by_cases c : e < tn A 41 w ∨ (tn A 41 w = e ∧ tb A 42 w = false)
  · rw [if_pos c, if_neg]
    · exact ⟨A, EQ.rfl, rlq.AG rlq.rfl, h.mono (by omega), hm, rfl⟩
    · rintro (z | ⟨z, z2⟩)
      · rcases c with c | c
        · omega
        · omega
      · rcases c with c | c
        · omega
        · rw [c.2] at z2; cases z2
  · have c2 : tn A 41 w < e ∨ (tn A 41 w = e ∧ tb A 42 w = true) := by
      by_cases z : tn A 41 w < e
      · exact Or.inl z
      · refine Or.inr ⟨by omega, ?_⟩
        rw [← Bool.not_eq_false]
        exact fun t => c (Or.inr ⟨by omega, t⟩)
    rw [if_neg c, if_pos c2]
    have e2 : EQ2 (sn (sb (sn A 41 w e) 42 w false) 44 w 0) (clP (sb (sn A 41 w e) 42 w false) w (tf A 2 * tf A 3)) := by
      obtain ⟨p1, p2, p3, p4⟩ := clP_row (A := sb (sn A 41 w e) 42 w false) (w := w) (tf A 2 * tf A 3)
      refine ⟨fun j _ _ _ => (p1 j).symm, fun j i a b d => ?_, fun j i _ _ _ _ => (p3 j i).symm, fun j i => (p4 j i).symm⟩
      rw [p2, if_neg (by omega), tn_sn, if_neg (by omega)]
    obtain ⟨p1, p2, p3, p4⟩ := clP_row (A := sb (sn A 41 w e) 42 w false) (w := w) (tf A 2 * tf A 3)
    generalize clP (sb (sn A 41 w e) 42 w false) w (tf A 2 * tf A 3) = C at *
    have x1 : ∀ j, tf (mrg (sn (sb (sn A 41 w e) 42 w false) 44 w 0) C) j = tf A j := fun j => by
      rw [mrg_tf]
      split
      · exact p1 j
      · rfl
    have x2 : ∀ j i, j ≠ 1 → j ≠ 41 → j ≠ 44 → tn (mrg (sn (sb (sn A 41 w e) 42 w false) 44 w 0) C) j i = tn A j i := fun j i a b f => by
      rw [mrg_tn, if_neg a, tn_sn, if_neg (by omega), tn_sb, tn_sn, if_neg (by omega)]
    have x3 : ∀ j i, tr (mrg (sn (sb (sn A 41 w e) 42 w false) 44 w 0) C) j i = tr A j i := fun j i => by
      rw [mrg_tr]
      split
      · exact p3 j i
      · rfl
    have x4 : ∀ j i, j ≠ 42 → tb (mrg (sn (sb (sn A 41 w e) 42 w false) 44 w 0) C) j i = tb A j i := fun j i a => by
      show tb (sb (sn A 41 w e) 42 w false) j i = _
      rw [tb_sb, if_neg (fun z => a z.1)]
      rfl
    have y1 : ∀ x, tn (mrg (sn (sb (sn A 41 w e) 42 w false) 44 w 0) C) 1 x = if 16 * w ≤ x ∧ x < 16 * w + tf A 2 * tf A 3 then 0 else tn A 1 x := fun x => by
      rw [mrg_tn, if_pos rfl, p2]
      by_cases z : 16 * w ≤ x ∧ x < 16 * w + tf A 2 * tf A 3
      · rw [if_pos ⟨rfl, z⟩, if_pos z]
      · rw [if_neg (fun t => z t.2), if_neg z, tn_sb, tn_sn, if_neg (by omega)]
    have y44 : ∀ x, tn (mrg (sn (sb (sn A 41 w e) 42 w false) 44 w 0) C) 44 x = if x = w then 0 else tn A 44 x := fun x => by
      rw [mrg_tn, if_neg (by decide), tn_sn]
      by_cases z : x = w
      · rw [if_pos ⟨rfl, z⟩, if_pos z]
      · rw [if_neg (fun t => z t.2), if_neg z, tn_sb, tn_sn, if_neg (by omega)]
    have y41 : ∀ x, tn (mrg (sn (sb (sn A 41 w e) 42 w false) 44 w 0) C) 41 x ≤ K := fun x => by
      rw [mrg_tn, if_neg (by decide), tn_sn, if_neg (by omega), tn_sb, tn_sn]
      split
      · omega
      · exact h.nb.2 _ _
    refine ⟨mrg (sn (sb (sn A 41 w e) 42 w false) 44 w 0) C, EQ.mrg _ _, e2.ag, ?_, hm.same (x1 14) (fun i => x2 10 i (by decide) (by decide) (by decide)) (fun i => x2 11 i (by decide) (by decide) (by decide)), x1 13⟩
    generalize mrg (sn (sb (sn A 41 w e) 42 w false) 44 w 0) C = X at *
    have d : df X A [] [1, 41, 43, 44] [] [42] := ⟨fun j _ => x1 j, fun j _ hj i => by
      simp only [List.mem_cons, List.not_mem_nil, or_false, not_or] at hj
      exact x2 j i hj.1 hj.2.1 hj.2.2.2, fun j _ _ i => x3 j i, fun j _ hj i => x4 j i (by simpa using hj)⟩
    refine h.wit d ⟨x1 53, fun j a b i => x2 j i (by omega) (by omega) (by omega)⟩ ⟨fun j => by rw [x1]; exact Nat.le_trans (h.nb.1 j) (by omega), fun j i => ?_⟩ (by omega) (iWit.of (fun x hx => ?_))
    · by_cases z1 : j = 1
      · rw [z1, y1]
        split
        · omega
        · have := h.nb.2 1 i; omega
      · by_cases z2 : j = 41
        · rw [z2]; have := y41 i; omega
        · by_cases z3 : j = 44
          · rw [z3, y44]
            split
            · omega
            · have := h.nb.2 44 i; omega
          · rw [x2 j i z1 z2 z3]; have := h.nb.2 j i; omega
    · rw [x1] at hx
      by_cases y : x = w
      · subst y
        unfold WI
        rw [x1, x1, x1, y44, if_pos rfl]
        refine ⟨fun k hk => absurd hk (Nat.not_lt_zero _), fun i hi hz => ?_, fun i j hi _ hzi => ?_, fun k l hk => absurd hk (Nat.not_lt_zero _)⟩
        · rw [y1, if_pos (by omega)] at hz
          exact absurd rfl hz
        · rw [y1, if_pos (by omega)] at hzi
          exact absurd rfl hzi
      · have q := h.wi hx
        refine q.same (x1 13) (x1 2) (x1 3) (fun i => x2 7 i (by decide) (by decide) (by decide)) (fun i => x2 8 i (by decide) (by decide) (by decide)) (by rw [y44, if_neg y]) (fun k hk => x2 43 _ (by decide) (by decide) (by decide)) (fun i hi => ?_)
        rw [y1, if_neg (by omega)]
end
