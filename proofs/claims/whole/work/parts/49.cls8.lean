/-! ===== a log grows; gets come ===== -/
theorem rwc_no {g j : Nat} : rwc g j ≠ 1 ∧ rwc g j ≠ 16 ∧ rwc g j ≠ 22 ∧ rwc g j ≠ 26 ∧ rwc g j ≠ 32 ∧ rwc g j ≠ 33 ∧ rwc g j ≠ 37 ∧ rwc g j ≠ 43 ∧ rwc g j ≠ 44 ∧ rwc g j ≠ 48 ∧ rwc g j ≠ 11 ∧ rwc g j ≠ 103 ∧ rwc g j ≠ 305 ∧ rwc g j ≠ 306 ∧ rwc g j ≠ 313 ∧ rwc g j ≠ 338 ∧ rwc g j ≠ 301 ∧ rwc g j ≠ 353 := by
  unfold rwc
  split <;> decide
theorem rwc_3 {g j : Nat} (h : g ≠ 3) : rwc g j ≠ 123 ∧ rwc g j ≠ 224 ∧ rwc g j ≠ 225 := by
  unfold rwc
  split <;> first | exact absurd rfl h | decide
theorem rwc_8 {g j : Nat} (h : g ≠ 8) : rwc g j ≠ 34 ∧ rwc g j ≠ 35 ∧ rwc g j ≠ 36 ∧ rwc g j ≠ 102 := by
  unfold rwc
  split <;> first | exact absurd rfl h | decide
theorem rwc_6 {g j : Nat} (h : g ≠ 6) : (rwc g j < 5 ∨ 10 < rwc g j) ∧ rwc g j ≠ 109 ∧ rwc g j ≠ 112 ∧ rwc g j ≠ 402 := by
  unfold rwc
  split <;> first | exact absurd rfl h | decide
theorem rwc_5 {g j : Nat} (h : g ≠ 5) : rwc g j ≠ 27 ∧ rwc g j ≠ 28 ∧ rwc g j ≠ 29 ∧ rwc g j ≠ 230 ∧ rwc g j ≠ 231 := by
  unfold rwc
  split <;> first | exact absurd rfl h | decide
section
variable {tc : Nat → ClassId} {a a' : Nat → Nat → Nat} {A B : TS} {S S' : HS}
theorem civ_eq {i g j : Nat} (hn : ∀ r, rwc g j = r → r < 100 → tn B r i = tn A r i) (hr : ∀ r, rwc g j = 100 + r → r < 100 → tr B r i = tr A r i) (hb : ∀ r, rwc g j = 200 + r → r < 100 → tb B r i = tb A r i) (hf : ∀ r, rwc g j = 300 + r → r < 100 → tf B r = tf A r) (h4 : g = 4 → tn B 45 i = tn A 45 i ∧ tr B 51 i = tr A 51 i ∧ tn B 50 i = tn A 50 i) (h6 : g = 6 → tn B 11 i = tn A 11 i) : civ B i g j = civ A i g j := by
  refine cv_same (fun q => hn _ rfl q) (fun q1 q2 => hr _ (by omega) (by omega)) (fun q1 q2 => hb _ (by omega) (by omega)) (fun q1 q2 => hf _ (by omega) (by omega)) (fun q => h4 ?_) (fun q => h6 ?_)
  · by_cases y : g = 4
    · exact y
    · exact absurd q (rwc_nl y).2.2.2.2
  · by_cases y : g = 6
    · exact y
    · exact absurd q (rwc_6 y).2.2.2
def ET (S : HS) (q o : Nat) (ans : Int32) (late wan : Bool) : Prop := q ∈ zL S ∧ zK S q = 3 ∧ zP S 192 q = some o ∧ zI S 193 q = ans ∧ zI S 194 q = bI late ∧ zI S 195 q = bI wan
def apG (A : TS) (e op : Nat) (ans : Int32) (late : Bool) : TS := sn (sb (sb (sr (sn A 22 (600 * e + tn A 26 e) op) 23 (600 * e + tn A 26 e) ans) 24 (600 * e + tn A 26 e) late) 25 (600 * e + tn A 26 e) false) 26 e (tn A 26 e + 1)
theorem apG_row {e op : Nat} {ans : Int32} {late : Bool} : (∀ j, tf (apG A e op ans late) j = tf A j) ∧ (∀ j i, ¬ (j = 22 ∧ i = 600 * e + tn A 26 e) → ¬ (j = 26 ∧ i = e) → tn (apG A e op ans late) j i = tn A j i) ∧ (∀ j i, ¬ (j = 23 ∧ i = 600 * e + tn A 26 e) → tr (apG A e op ans late) j i = tr A j i) ∧ (∀ j i, ¬ (j = 24 ∧ i = 600 * e + tn A 26 e) → ¬ (j = 25 ∧ i = 600 * e + tn A 26 e) → tb (apG A e op ans late) j i = tb A j i) ∧
    tn (apG A e op ans late) 26 e = tn A 26 e + 1 ∧ tn (apG A e op ans late) 22 (600 * e + tn A 26 e) = op ∧ tr (apG A e op ans late) 23 (600 * e + tn A 26 e) = ans ∧ tb (apG A e op ans late) 24 (600 * e + tn A 26 e) = late ∧ tb (apG A e op ans late) 25 (600 * e + tn A 26 e) = false := by
  unfold apG
  refine ⟨fun _ => rfl, fun j i q1 q2 => ?_, fun j i q => ?_, fun j i q1 q2 => ?_, ?_, ?_, ?_, ?_, ?_⟩
  · rw [tn_sn, if_neg q2, tn_sb, tn_sb, tn_sr, tn_sn, if_neg q1]
  · rw [tr_sn, tr_sb, tr_sb, tr_sr, if_neg q]; rfl
  · rw [tb_sn, tb_sb, if_neg q2, tb_sb, if_neg q1]; rfl
  · rw [tn_sn, if_pos ⟨rfl, rfl⟩]
  · rw [tn_sn, if_neg (by omega), tn_sb, tn_sb, tn_sr, tn_sn, if_pos ⟨rfl, rfl⟩]
  · rw [tr_sn, tr_sb, tr_sb, tr_sr, if_pos ⟨rfl, rfl⟩]
  · rw [tb_sn, tb_sb, if_neg (by omega), tb_sb, if_pos ⟨rfl, rfl⟩]
  · rw [tb_sn, tb_sb, if_pos ⟨rfl, rfl⟩]
theorem lv_nA {g i : Nat} (h3 : g ≠ 3) (h8 : g ≠ 8) (h38 : tf B 38 = tf A 38) (h1 : tf B 1 = tf A 1) (h13 : tf B 13 = tf A 13) (h53 : tf B 53 = tf A 53) : lv B g i ↔ lv A g i := by
  unfold lv
  split <;> first | exact absurd rfl h3 | exact absurd rfl h8 | simp only [h38, h1, h13, h53]
theorem fty3 {j : Nat} {b : Bool} (h : (fty 3)[j]? = some b) : (j = 0 ∧ b = false) ∨ (b = true ∧ (j = 1 ∨ j = 2 ∨ j = 3)) := by
  have hl := (List.getElem?_eq_some_iff.mp h).1
  have hl' : j < 4 := hl
  have : j = 0 ∨ j = 1 ∨ j = 2 ∨ j = 3 := by omega
  rcases this with rfl | rfl | rfl | rfl <;> (simp [fty] at h; subst h; simp)
theorem fty8 {j : Nat} {b : Bool} (h : (fty 8)[j]? = some b) : (j = 0 ∧ b = false) ∨ (b = true ∧ (j = 1 ∨ j = 2 ∨ j = 3 ∨ j = 4)) := by
  have hl := (List.getElem?_eq_some_iff.mp h).1
  have hl' : j < 5 := hl
  have : j = 0 ∨ j = 1 ∨ j = 2 ∨ j = 3 ∨ j = 4 := by omega
  rcases this with rfl | rfl | rfl | rfl | rfl <;> (simp [fty] at h; subst h; simp)
theorem aS_old {f n i0 q t M g i : Nat} (hl : lv A g i) (hn : ¬ (g = f ∧ i = n)) : aS a f n i0 q t M g i = a g i := by
  unfold aS
  have h23 : g ≠ 23 := fun z => by subst z; exact hl
  have h50 : g ≠ 50 := fun z => by subst z; exact hl
  rw [if_neg hn, if_neg (fun z => h23 z.1), if_neg (fun z => h50 z.1)]
theorem aS_23 {f n i0 q t M i : Nat} (hf : f < 9) : aS a f n i0 q t M 23 i = if i = i0 then t else a 23 i := by
  unfold aS
  rw [if_neg (by omega)]
  by_cases y : i = i0
  · rw [if_pos ⟨rfl, y⟩, if_pos y]
  · rw [if_neg (fun z => y z.2), if_neg (by omega), if_neg y]
theorem aS_50 {f n i0 q t M i : Nat} (hf : f < 9) : aS a f n i0 q t M 50 i = if i = i0 then M else a 50 i := by
  unfold aS
  rw [if_neg (by omega), if_neg (by omega)]
  by_cases y : i = i0
  · rw [if_pos ⟨rfl, y⟩, if_pos y]
  · rw [if_neg (fun z => y z.2), if_neg y]
theorem aS_q {f n i0 q t M : Nat} : aS a f n i0 q t M f n = q := if_pos ⟨rfl, rfl⟩
theorem RA.apped {e op q t' M' : Nat} {ans : Int32} {late : Bool} (h : RA tc a A S) (he : e < tf A 38) (hop : op < tf A 13) (hn6 : tn A 26 e < 600) (hq : ET S q (a 6 op) ans late false) (hfr : ∀ i, lv A 3 i → a 3 i ≠ q) (hL : LAdd tc a A S (3 + e) q S' t' M') : RA tc (aS a 3 (600 * e + tn A 26 e) (3 + e) q t' M') (apG A e op ans late) S' := by
  obtain ⟨L1, L2, L3, L4, L5, L6⟩ := hL
  obtain ⟨r1, r2, r3, r4, s1, s2, s3, s4, s5⟩ := apG_row (A := A) (e := e) (op := op) (ans := ans) (late := late)
  have hSE : SE a (aS a 3 (600 * e + tn A 26 e) (3 + e) q t' M') := aS_SE (by decide)
  have hW := h.2.2
  have h12 := hW.2.1.2.1
  have hl0 : lv A 0 (3 + e) := Or.inr (Or.inl ⟨by omega, by omega, by omega⟩)
  have hz : lsz A (3 + e) = tn A 26 e := by
    unfold lsz
    rw [if_neg (by omega), if_neg (by omega), if_neg (by omega), if_pos (by omega), show 3 + e - 3 = e by omega]
  have hf : lfam (3 + e) = 3 := by
    unfold lfam
    rw [if_neg (by omega), if_neg (by omega), if_neg (by omega), if_pos (by omega)]
  have hn0 : lix (3 + e) (lsz A (3 + e)) = 600 * e + tn A 26 e := by
    unfold lix
    rw [if_neg (by omega), if_pos (by omega), hz, show 3 + e - 3 = e by omega]
  have hp1 : (600 * e + tn A 26 e) / 600 = e := by omega
  have hp2 : (600 * e + tn A 26 e) % 600 = tn A 26 e := by omega
  have t26 : ∀ x, x ≠ e → tn (apG A e op ans late) 26 x = tn A 26 x := fun x hx => r2 26 x (by omega) (fun z => hx z.2)
  have tne : ∀ j i, j ≠ 22 → j ≠ 26 → tn (apG A e op ans late) j i = tn A j i := fun j i q1 q2 => r2 j i (fun z => q1 z.1) (fun z => q2 z.1)
  have hlv : ∀ g i, lv (apG A e op ans late) g i ↔ lv A g i ∨ (g = 3 ∧ i = 600 * e + tn A 26 e) := fun g i => by
    by_cases y : g = 3
    · subst y
      show (i / 600 < tf A 38 ∧ i % 600 < tn (apG A e op ans late) 26 (i / 600)) ↔ (i / 600 < tf A 38 ∧ i % 600 < tn A 26 (i / 600)) ∨ _
      by_cases w : i / 600 = e
      · rw [w, s1]
        omega
      · rw [t26 _ w]
        exact ⟨Or.inl, fun z => z.resolve_right (fun z => w (by rw [z.2]; exact hp1))⟩
    · by_cases w : g = 8
      · subst w
        show (i / 600 < tf A 38 ∧ i % 600 < tn (apG A e op ans late) 37 (i / 600)) ↔ (i / 600 < tf A 38 ∧ i % 600 < tn A 37 (i / 600)) ∨ _
        rw [tne 37 _ (by decide) (by decide)]
        exact ⟨Or.inl, fun z => z.resolve_right (fun z => y z.1)⟩
      · rw [lv_nA y w (r1 38) (r1 1) (r1 13) (r1 53)]
        exact ⟨Or.inl, fun z => z.resolve_right (fun z => y z.1)⟩
  have hcl : ∀ g i, cln (apG A e op ans late) g i = cln A g i := fun _ _ => rfl
  refine h.addL (f0 := 3) (n0 := 600 * e + tn A 26 e) hl0 L1 L2 L3 L4 L5 hf hn0 (by decide) (by decide) hlv (fun g i hl => aS_old hl (fun z => ?_)) (fun i => aS_23 (by decide)) (fun i => aS_50 (by decide)) aS_q (fun g i j hl hn => ?_) (fun g i j hl hn => ?_) (fun g i hl => hcl g i) (fun i k hl => ?_) (fun g i k hl _ _ => crv_same hSE (fun x => tne 1 x (by decide) (by decide))) (fun i => ?_) ?_ ?_ (fun _ i hi _ => hfr i hi) (fun j hj => ?_) (fun j hj => ?_) (fun i k hi hk => lv_elem hW hi hk)
  · obtain ⟨rfl, rfl⟩ := z
    have z2 : (600 * e + tn A 26 e) / 600 < tf A 38 ∧ (600 * e + tn A 26 e) % 600 < tn A 26 ((600 * e + tn A 26 e) / 600) := hl
    rw [hp1, hp2] at z2
    omega
  · obtain ⟨n1, n2, n3, n4, -⟩ := rwc_no (g := g) (j := j)
    refine civ_eq (fun r q1 q2 => tne r i (by omega) (by omega)) (fun r q1 q2 => r3 r i (fun z => ?_)) (fun r q1 q2 => r4 r i (fun z => ?_) (fun z => ?_)) (fun r _ _ => r1 r) (fun _ => ⟨tne 45 i (by decide) (by decide), r3 51 i (by omega), tne 50 i (by decide) (by decide)⟩) (fun _ => tne 11 i (by decide) (by decide))
    all_goals
      by_cases y : g = 3
      · exact hn ⟨y, z.2⟩
      · have := rwc_3 (j := j) y
        omega
  · exact cpv_same hSE (fun _ => tne 16 i (by decide) (by decide)) (fun y => r2 22 i (fun z => hn ⟨y, z.2⟩) (by omega)) (fun _ => tne 48 i (by decide) (by decide)) (fun _ => tne 33 i (by decide) (by decide))
  · unfold cav
    rw [r3 3 _ (by omega), tne 32 _ (by decide) (by decide)]
  · unfold lsz
    rw [r1 53, r1 5, r1 6]
    by_cases y : i = 3 + e
    · subst y
      rw [if_pos rfl, if_neg (by omega), if_neg (by omega), if_neg (by omega), if_pos (by omega), if_neg (by omega), if_neg (by omega), if_neg (by omega), if_pos (by omega), show 3 + e - 3 = e by omega, s1]
    · rw [if_neg y, tne 37 _ (by decide) (by decide)]
      by_cases w : i < 15 ∧ 3 ≤ i
      · rw [t26 (i - 3) (by omega)]
      · by_cases x : i < 15
        · have : i = 0 ∨ i = 1 ∨ i = 2 := by omega
          rcases this with rfl | rfl | rfl <;> rfl
        · rw [if_neg x, if_neg x]
  · obtain ⟨w1, w2, w7, w8, w9, w10, w11, w12⟩ := hW
    refine ⟨w1, w2, fun x hx => ?_, fun i hi => ?_, fun i hi => ?_, fun i hi => ?_, fun i hi => ?_, fun w k hw hk => ?_⟩
    · have := w7 x hx
      rw [tne 37 _ (by decide) (by decide)]
      by_cases y : x = e
      · rw [y, s1]
        rw [y] at this
        omega
      · rw [t26 x y]
        exact this
    · rw [tne 16 _ (by decide) (by decide)]; exact w8 i hi
    · rcases (hlv 3 i).mp hi with y | y
      · by_cases z : i = 600 * e + tn A 26 e
        · rw [z, s2]; exact hop
        · rw [r2 22 i (fun q => z q.2) (by omega)]; exact w9 i y
      · rw [y.2, s2]; exact hop
    · rw [tne 48 _ (by decide) (by decide)]; exact w10 i hi
    · rw [tne 33 _ (by decide) (by decide)]
      rcases (hlv 8 i).mp hi with y | y
      · exact w11 i y
      · omega
    · rw [tne 1 _ (by decide) (by decide)]; exact w12 w k hw hk
  · obtain ⟨h1, h2, -⟩ := hq
    obtain ⟨q1, q2, -⟩ := L1 q h1
    exact ⟨q1, q2.trans h2⟩
  · obtain ⟨h1, h2, h3, h4, h5, h6⟩ := hq
    obtain ⟨-, -, -, -, -, -, q7⟩ := L1 q h1
    rcases fty3 hj with ⟨-, y⟩ | ⟨-, y⟩
    · exact absurd y (by decide)
    · rcases y with rfl | rfl | rfl
      · exact ((q7 193 (Or.inl (by decide))).1.trans h4).trans s3.symm
      · exact ((q7 194 (Or.inl (by decide))).1.trans h5).trans (congrArg bI s4.symm)
      · exact ((q7 195 (Or.inl (by decide))).1.trans h6).trans (congrArg bI s5.symm)
  · obtain ⟨h1, h2, h3, h4, h5, h6⟩ := hq
    obtain ⟨-, -, -, -, -, -, q7⟩ := L1 q h1
    rcases fty3 hj with ⟨y, -⟩ | ⟨y, -⟩
    · subst y
      refine ((q7 192 (Or.inl (by decide))).2.trans h3).trans ?_
      show _ = some (aS a 3 (600 * e + tn A 26 e) (3 + e) q t' M' 6 (tn (apG A e op ans late) 22 (600 * e + tn A 26 e)))
      rw [s2, hSE 6 _ (by decide) (by decide) (by decide) (by decide) (by decide)]
    · exact absurd y (by decide)
end
