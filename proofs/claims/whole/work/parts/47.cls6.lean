/-! ===== letters come and go ===== -/
section
variable {tc : Nat → ClassId} {a a' : Nat → Nat → Nat} {A B : TS} {S S' : HS}
def SE (a a' : Nat → Nat → Nat) : Prop := ∀ g i, g ≠ 3 → g ≠ 4 → g ≠ 8 → g ≠ 23 → g ≠ 50 → a' g i = a g i
theorem SE.op (h : SE a a') (t : Nat) : opA a' t = opA a t := by
  unfold opA
  rw [h 6 _ (by decide) (by decide) (by decide) (by decide) (by decide)]
theorem cpv_same (h : SE a a') {i g j : Nat} (h1 : g = 2 → tn B 16 i = tn A 16 i) (h2 : g = 3 → tn B 22 i = tn A 22 i) (h3 : g = 4 → tn B 48 i = tn A 48 i) (h4 : g = 8 → tn B 33 i = tn A 33 i) : cpv a' B i g j = cpv a A i g j := by
  have e : ∀ g i, g ≠ 3 → g ≠ 4 → g ≠ 8 → g ≠ 23 → g ≠ 50 → a' g i = a g i := h
  unfold cpv
  split
  · rw [h1 rfl, h.op]
  · rw [h2 rfl, e 6 _ (by decide) (by decide) (by decide) (by decide) (by decide)]
  · rw [h3 rfl, h.op]
  · rw [e 7 _ (by decide) (by decide) (by decide) (by decide) (by decide)]
  · rw [e 0 _ (by decide) (by decide) (by decide) (by decide) (by decide)]
  · rw [e 0 _ (by decide) (by decide) (by decide) (by decide) (by decide)]
  · rw [e 20 _ (by decide) (by decide) (by decide) (by decide) (by decide)]
  · rw [e 20 _ (by decide) (by decide) (by decide) (by decide) (by decide)]
  · rw [e 0 _ (by decide) (by decide) (by decide) (by decide) (by decide)]
  · rw [h4 rfl, e 6 _ (by decide) (by decide) (by decide) (by decide) (by decide)]
  · rw [e 27 _ (by decide) (by decide) (by decide) (by decide) (by decide)]
  · rw [e 7 _ (by decide) (by decide) (by decide) (by decide) (by decide)]
  · rw [e 24 _ (by decide) (by decide) (by decide) (by decide) (by decide)]
  · rw [e 25 _ (by decide) (by decide) (by decide) (by decide) (by decide)]
  · rw [e 26 _ (by decide) (by decide) (by decide) (by decide) (by decide)]
  · rw [e 0 _ (by decide) (by decide) (by decide) (by decide) (by decide)]
  · rw [e 0 _ (by decide) (by decide) (by decide) (by decide) (by decide)]
  · rfl
theorem crv_same (h : SE a a') {i g k : Nat} (h1 : ∀ x, tn B 1 x = tn A 1 x) : crv a' B g i k = crv a A g i k := by
  unfold crv
  rw [h 2 _ (by decide) (by decide) (by decide) (by decide) (by decide), h 1 _ (by decide) (by decide) (by decide) (by decide) (by decide), h 9 _ (by decide) (by decide) (by decide) (by decide) (by decide), h1, h.op]
theorem rwc_nl {g j : Nat} (h : g ≠ 4) : (rwc g j < 45 ∨ 50 < rwc g j) ∧ rwc g j ≠ 151 ∧ rwc g j ≠ 252 ∧ rwc g j ≠ 353 ∧ rwc g j ≠ 401 := by
  unfold rwc
  split <;> first | exact absurd rfl h | decide
theorem rwc_53 {g j : Nat} : rwc g j ≠ 353 := by
  intro h
  unfold rwc at h
  split at h <;> exact absurd h (by decide)
/-- what differs in the rows of letters alone shows in letters alone -/
theorem civ_nl {i g j : Nat} (hg : g ≠ 4) (h0 : ∀ j, j ≠ 53 → tf B j = tf A j) (h1 : ∀ j, ¬ (45 ≤ j ∧ j ≤ 50) → tn B j i = tn A j i) (h2 : ∀ j, j ≠ 51 → tr B j i = tr A j i) (h3 : ∀ j, j ≠ 52 → tb B j i = tb A j i) : civ B i g j = civ A i g j := by
  obtain ⟨q1, q2, q3, q4, q5⟩ := rwc_nl (j := j) hg
  exact cv_same (fun _ => h1 _ (by omega)) (fun _ _ => h2 _ (by omega)) (fun _ _ => h3 _ (by omega)) (fun _ _ => h0 _ (by omega)) (fun z => absurd z q5) (fun _ => h1 11 (by decide))
theorem lv_same {g i : Nat} (hg : g ≠ 4) (h38 : tf B 38 = tf A 38) (h1 : tf B 1 = tf A 1) (h13 : tf B 13 = tf A 13) (h26 : ∀ i, tn B 26 i = tn A 26 i) (h37 : ∀ i, tn B 37 i = tn A 37 i) : lv B g i ↔ lv A g i := by
  unfold lv
  split <;> first | exact absurd rfl hg | simp only [h38, h1, h13, h26, h37]
theorem send_row {so e to op n c : Nat} {v : Int32} {b : Bool} (h53 : tf A 53 ≠ 250) : (∀ j, j ≠ 53 → tf (sendF A so e to op n c v b) j = tf A j) ∧ tf (sendF A so e to op n c v b) 53 = tf A 53 + 1 ∧ (∀ j i, ¬ ((45 ≤ j ∧ j ≤ 50) ∧ i = tf A 53) → tn (sendF A so e to op n c v b) j i = tn A j i) ∧ (∀ j i, ¬ (j = 51 ∧ i = tf A 53) → tr (sendF A so e to op n c v b) j i = tr A j i) ∧ (∀ j i, ¬ (j = 52 ∧ i = tf A 53) → tb (sendF A so e to op n c v b) j i = tb A j i) ∧
    tn (sendF A so e to op n c v b) 45 (tf A 53) = so ∧ tn (sendF A so e to op n c v b) 46 (tf A 53) = e ∧ tn (sendF A so e to op n c v b) 47 (tf A 53) = to ∧ tn (sendF A so e to op n c v b) 48 (tf A 53) = op ∧ tn (sendF A so e to op n c v b) 49 (tf A 53) = n ∧ tn (sendF A so e to op n c v b) 50 (tf A 53) = c ∧ tr (sendF A so e to op n c v b) 51 (tf A 53) = v ∧ tb (sendF A so e to op n c v b) 52 (tf A 53) = b := by
  unfold sendF
  rw [if_neg h53]
  refine ⟨fun j q => ?_, ?_, fun j i q => ?_, fun j i q => ?_, fun j i q => ?_, ?_, ?_, ?_, ?_, ?_, ?_, ?_, ?_⟩
  · rw [tf_sf, if_neg q]; rfl
  · rw [tf_sf, if_pos rfl]
  · rw [tn_sf, tn_sb, tn_sr, tn_sn, if_neg (by omega), tn_sn, if_neg (by omega), tn_sn, if_neg (by omega), tn_sn, if_neg (by omega), tn_sn, if_neg (by omega), tn_sn, if_neg (by omega)]
  · rw [tr_sf, tr_sb, tr_sr, if_neg q]; rfl
  · rw [tb_sf, tb_sb, if_neg q]; rfl
  · rw [tn_sf, tn_sb, tn_sr, tn_sn, if_neg (by omega), tn_sn, if_neg (by omega), tn_sn, if_neg (by omega), tn_sn, if_neg (by omega), tn_sn, if_neg (by omega), tn_sn, if_pos ⟨rfl, rfl⟩]
  · rw [tn_sf, tn_sb, tn_sr, tn_sn, if_neg (by omega), tn_sn, if_neg (by omega), tn_sn, if_neg (by omega), tn_sn, if_neg (by omega), tn_sn, if_pos ⟨rfl, rfl⟩]
  · rw [tn_sf, tn_sb, tn_sr, tn_sn, if_neg (by omega), tn_sn, if_neg (by omega), tn_sn, if_neg (by omega), tn_sn, if_pos ⟨rfl, rfl⟩]
  · rw [tn_sf, tn_sb, tn_sr, tn_sn, if_neg (by omega), tn_sn, if_neg (by omega), tn_sn, if_pos ⟨rfl, rfl⟩]
  · rw [tn_sf, tn_sb, tn_sr, tn_sn, if_neg (by omega), tn_sn, if_pos ⟨rfl, rfl⟩]
  · rw [tn_sf, tn_sb, tn_sr, tn_sn, if_pos ⟨rfl, rfl⟩]
  · rw [tr_sf, tr_sb, tr_sr, if_pos ⟨rfl, rfl⟩]
  · rw [tb_sf, tb_sb, if_pos ⟨rfl, rfl⟩]
/-- a letter at q -/
def LT (S : HS) (q so e to : Nat) (o : Option Nat) (n : Nat) (x : Int32) (b : Bool) : Prop := q ∈ zL S ∧ zK S q = 4 ∧ zI S 256 q = nI so ∧ zI S 257 q = nI e ∧ zI S 258 q = nI to ∧ zP S 259 q = o ∧ zI S 260 q = nI n ∧ zI S 261 q = x ∧ zI S 262 q = bI b
theorem LT.lop {q so e to n b : Nat} {o t : Option Nat} {x : Int32} {sa : Bool} (h : LT S q so e to o n x sa) (hop : lop S S' b t) : LT S' q so e to o n x sa := by
  obtain ⟨h1, h2, h3, h4, h5, h6, h7, h8, h9⟩ := h
  obtain ⟨q1, q2, -, -, -, -, q7⟩ := hop q h1
  exact ⟨q1, q2.trans h2, (q7 256 (Or.inl (by decide))).1.trans h3, (q7 257 (Or.inl (by decide))).1.trans h4, (q7 258 (Or.inl (by decide))).1.trans h5, (q7 259 (Or.inl (by decide))).2.trans h6, (q7 260 (Or.inl (by decide))).1.trans h7, (q7 261 (Or.inl (by decide))).1.trans h8, (q7 262 (Or.inl (by decide))).1.trans h9⟩
theorem fty4 {j : Nat} {b : Bool} (h : (fty 4)[j]? = some b) : (j = 3 ∧ b = false) ∨ (b = true ∧ (j = 0 ∨ j = 1 ∨ j = 2 ∨ j = 4 ∨ j = 5 ∨ j = 6)) := by
  have hl := (List.getElem?_eq_some_iff.mp h).1
  have hl' : j < 7 := hl
  have : j = 0 ∨ j = 1 ∨ j = 2 ∨ j = 3 ∨ j = 4 ∨ j = 5 ∨ j = 6 := by omega
  rcases this with rfl | rfl | rfl | rfl | rfl | rfl | rfl <;> (simp [fty] at h; subst h; simp)
/-- the letters' row gets one more: the addresses -/
def aS (a : Nat → Nat → Nat) (f n i0 q t M : Nat) : Nat → Nat → Nat := fun g i => if g = f ∧ i = n then q else if g = 23 ∧ i = i0 then t else if g = 50 ∧ i = i0 then M else a g i
theorem aS_SE {f n i0 q t M : Nat} (hf : f = 3 ∨ f = 4 ∨ f = 8) : SE a (aS a f n i0 q t M) := by
  intro g i h3 h4 h8 h23 h50
  unfold aS
  rw [if_neg (by omega), if_neg (by omega), if_neg (by omega)]
theorem RA.sent {so e to op n c q t' M' : Nat} {v : Int32} {b : Bool} (h : RA tc a A S) (h53 : tf A 53 ≠ 250) (hop : op ≤ tf A 13) (hq : LT S q so e to (opA a op) n (if so = 2 then v else nI c) b) (hL : LAdd tc a A S 0 q S' t' M') : RA tc (aS a 4 (tf A 53) 0 q t' M') (sendF A so e to op n c v b) S' := by
  obtain ⟨L1, L2, L3, L4, L5, L6⟩ := hL
  obtain ⟨r1, r2, r3, r4, r5, s1, s2, s3, s4, s5, s6, s7, s8⟩ := send_row (so := so) (e := e) (to := to) (op := op) (n := n) (c := c) (v := v) (b := b) h53
  have hk := send_keep A so e to op n c v b
  have hSE : SE a (aS a 4 (tf A 53) 0 q t' M') := aS_SE (by decide)
  have hW := h.2.2
  have h250 := hW.2.1.2.2.2.2
  have hl0 : lv A 0 0 := Or.inl (by decide)
  have hnl : ∀ {g i : Nat}, lv A g i → ¬ (g = 4 ∧ i = tf A 53) := fun {g i} z y => by
    obtain ⟨rfl, rfl⟩ := y
    exact Nat.lt_irrefl _ z
  refine h.addL (f0 := 4) (n0 := tf A 53) hl0 L1 L2 L3 L4 L5 rfl rfl (by decide) (by decide) (fun g i => ?_) (fun g i hl => ?_) (fun i => ?_) (fun i => ?_) ?_ (fun g i j hl hn => ?_) (fun g i j hl hn => ?_) (fun g i hl => ?_) (fun i k hl => ?_) (fun g i k hl _ _ => crv_same hSE (fun x => r3 1 x (by omega))) (fun i => ?_) ?_ ?_ (fun z => absurd rfl z) (fun j hj => ?_) (fun j hj => ?_) (fun i k hi hk => lv_elem hW hi hk)
  · by_cases y : g = 4
    · subst y
      show i < tf (sendF A so e to op n c v b) 53 ↔ i < tf A 53 ∨ _
      rw [r2]
      omega
    · rw [lv_same y (r1 38 (by decide)) (r1 1 (by decide)) (r1 13 (by decide)) (fun i => r3 26 i (by omega)) (fun i => r3 37 i (by omega))]
      exact ⟨Or.inl, fun z => z.resolve_right (fun w => y w.1)⟩
  · unfold aS
    have h23 : g ≠ 23 := fun z => by subst z; exact hl
    have h50 : g ≠ 50 := fun z => by subst z; exact hl
    rw [if_neg (hnl hl), if_neg (fun z => h23 z.1), if_neg (fun z => h50 z.1)]
  · unfold aS
    rw [if_neg (by omega)]
    by_cases y : i = 0
    · rw [if_pos ⟨rfl, y⟩, if_pos y]
    · rw [if_neg (fun z => y z.2), if_neg (by omega), if_neg y]
  · unfold aS
    rw [if_neg (by omega), if_neg (by omega)]
    by_cases y : i = 0
    · rw [if_pos ⟨rfl, y⟩, if_pos y]
    · rw [if_neg (fun z => y z.2), if_neg y]
  · unfold aS
    rw [if_pos ⟨rfl, rfl⟩]
  · by_cases y : g = 4
    · subst y
      have hi : i ≠ tf A 53 := fun z => hn ⟨rfl, z⟩
      exact cv_same (fun _ => r3 _ i (fun z => hi z.2)) (fun _ _ => r4 _ i (fun z => hi z.2)) (fun _ _ => r5 _ i (fun z => hi z.2)) (fun _ _ => r1 _ (fun z => rwc_53 (g := 4) (j := j) (by omega))) (fun _ => ⟨r3 _ i (fun z => hi z.2), r4 _ i (fun z => hi z.2), r3 _ i (fun z => hi z.2)⟩) (fun _ => r3 _ i (fun z => hi z.2))
    · exact civ_nl y r1 (fun j z => r3 j i (fun w => z w.1)) (fun j z => r4 j i (fun w => z w.1)) (fun j z => r5 j i (fun w => z w.1))
  · refine cpv_same hSE (fun _ => r3 16 i (by omega)) (fun _ => r3 22 i (by omega)) (fun y => r3 48 i (fun z => hn ⟨y, z.2⟩)) (fun _ => r3 33 i (by omega))
  · unfold cln
    rw [r1 1 (by decide), r1 2 (by decide), r1 3 (by decide)]
  · unfold cav
    rw [r4 3 _ (by omega), r3 32 _ (by omega)]
  · unfold lsz
    rw [r2, r1 5 (by decide), r1 6 (by decide), r3 26 _ (by omega), r3 37 _ (by omega)]
    by_cases y : i = 0
    · rw [if_pos y, if_pos y, if_pos y]
    · rw [if_neg y, if_neg y, if_neg y]
  · obtain ⟨w1, ⟨w2, w3, w4, w5, w6⟩, w7, w8, w9, w10, w11, w12⟩ := hW
    refine ⟨?_, ⟨?_, ?_, ?_, ?_, ?_⟩, fun x hx => ?_, fun i hi => ?_, fun i hi => ?_, fun i hi => ?_, fun i hi => ?_, fun w k hw hk => ?_⟩
    · rw [r1 1 (by decide), r1 2 (by decide), r1 3 (by decide)]; exact w1
    · rw [r1 5 (by decide), r1 38 (by decide)]; exact w2
    · rw [r1 38 (by decide)]; exact w3
    · rw [r1 6 (by decide), r1 13 (by decide)]; exact w4
    · rw [r1 13 (by decide)]; exact w5
    · rw [r2]; omega
    · rw [r1 38 (by decide)] at hx
      rw [r3 26 _ (by omega), r3 37 _ (by omega)]; exact w7 x hx
    · rw [r3 16 _ (by omega), r1 13 (by decide)]; exact w8 i hi
    · rw [r3 22 _ (by omega), r1 13 (by decide)]
      exact w9 i ((lv_same (by decide) (r1 38 (by decide)) (r1 1 (by decide)) (r1 13 (by decide)) (fun i => r3 26 i (by omega)) (fun i => r3 37 i (by omega))).mp hi)
    · rw [r1 13 (by decide)]
      by_cases y : i = tf A 53
      · rw [y, s4]; exact hop
      · have hi2 : i < tf (sendF A so e to op n c v b) 53 := hi
        rw [r2] at hi2
        rw [r3 48 i (fun z => y z.2)]
        exact w10 i (show i < tf A 53 by omega)
    · rw [r3 33 _ (by omega), r1 13 (by decide)]
      exact w11 i ((lv_same (by decide) (r1 38 (by decide)) (r1 1 (by decide)) (r1 13 (by decide)) (fun i => r3 26 i (by omega)) (fun i => r3 37 i (by omega))).mp hi)
    · rw [r1 1 (by decide)] at hw
      rw [r3 1 _ (by omega), r1 13 (by decide)]
      exact w12 w k hw hk
  · exact ⟨(hq.lop L1).1, (hq.lop L1).2.1⟩
  · obtain ⟨h1, h2, h3, h4, h5, h6, h7, h8, h9⟩ := hq.lop L1
    rcases fty4 hj with ⟨-, y⟩ | ⟨-, y⟩
    · exact absurd y (by decide)
    · rcases y with rfl | rfl | rfl | rfl | rfl | rfl
      · exact h3.trans (congrArg nI s1.symm)
      · exact h4.trans (congrArg nI s2.symm)
      · exact h5.trans (congrArg nI s3.symm)
      · exact h7.trans (congrArg nI s5.symm)
      · show zI S' 261 q = cv (sendF A so e to op n c v b) 401 (tf A 53)
        rw [cv_401, s1, s6, s7]
        exact h8
      · exact h9.trans (congrArg bI s8.symm)
  · obtain ⟨h1, h2, h3, h4, h5, h6, h7, h8, h9⟩ := hq.lop L1
    rcases fty4 hj with ⟨y, -⟩ | ⟨y, -⟩
    · subst y
      show zP S' 259 q = opA (aS a 4 (tf A 53) 0 q t' M') (tn (sendF A so e to op n c v b) 48 (tf A 53))
      rw [s4, hSE.op]
      exact h6
    · exact absurd y (by decide)
end
