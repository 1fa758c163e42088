/-! ===== a master's waiting gets: one comes, one goes, all go ===== -/
theorem cpv8 (a : Nat → Nat → Nat) (A : TS) (i j : Nat) : cpv a A i 8 j = if j = 0 then some (a 6 (tn A 33 i)) else none := by
  have key : ∀ g, g = 8 → j ≠ 0 → cpv a A i g j = none := by
    intro g hg hj
    unfold cpv
    split <;> first | rfl | exact absurd hg (by decide) | exact absurd rfl hj
  by_cases y : j = 0
  · subst y; rfl
  · rw [if_neg y]
    exact key 8 rfl y
theorem rwc8 (j : Nat) : rwc 8 j = 34 ∨ rwc 8 j = 35 ∨ rwc 8 j = 36 ∨ rwc 8 j = 102 ∨ rwc 8 j = 999 := by
  have key : ∀ g, g = 8 → (rwc g j = 34 ∨ rwc g j = 35 ∨ rwc g j = 36 ∨ rwc g j = 102 ∨ rwc g j = 999) := by
    intro g hg
    unfold rwc
    split <;> first | exact absurd hg (by decide) | decide
  exact key 8 rfl
section
variable {tc : Nat → ClassId} {a a' : Nat → Nat → Nat} {A B : TS} {S S' : HS}
def GT (S : HS) (q o pl : Nat) (vt : Int32) (sy cf : Nat) : Prop := q ∈ zL S ∧ zK S q = 8 ∧ zP S 512 q = some o ∧ zI S 513 q = nI pl ∧ zI S 514 q = vt ∧ zI S 515 q = nI sy ∧ zI S 516 q = nI cf
def gtG (A : TS) (e op pl : Nat) (vt : Int32) (sy : Nat) : TS := sr (sn (sn (sn (sn (sn A 33 (600 * e + tn A 37 e) op) 34 (600 * e + tn A 37 e) pl) 35 (600 * e + tn A 37 e) sy) 36 (600 * e + tn A 37 e) 0) 37 e (tn A 37 e + 1)) 2 (600 * e + tn A 37 e) vt
theorem gtG_row {e op pl sy : Nat} {vt : Int32} : (∀ j, tf (gtG A e op pl vt sy) j = tf A j) ∧ (∀ j i, ¬ ((33 ≤ j ∧ j ≤ 36) ∧ i = 600 * e + tn A 37 e) → ¬ (j = 37 ∧ i = e) → tn (gtG A e op pl vt sy) j i = tn A j i) ∧ (∀ j i, ¬ (j = 2 ∧ i = 600 * e + tn A 37 e) → tr (gtG A e op pl vt sy) j i = tr A j i) ∧ (∀ j i, tb (gtG A e op pl vt sy) j i = tb A j i) ∧
    tn (gtG A e op pl vt sy) 37 e = tn A 37 e + 1 ∧ tn (gtG A e op pl vt sy) 33 (600 * e + tn A 37 e) = op ∧ tn (gtG A e op pl vt sy) 34 (600 * e + tn A 37 e) = pl ∧ tn (gtG A e op pl vt sy) 35 (600 * e + tn A 37 e) = sy ∧ tn (gtG A e op pl vt sy) 36 (600 * e + tn A 37 e) = 0 ∧ tr (gtG A e op pl vt sy) 2 (600 * e + tn A 37 e) = vt := by
  unfold gtG
  refine ⟨fun _ => rfl, fun j i q1 q2 => ?_, fun j i q => ?_, fun j i => rfl, ?_, ?_, ?_, ?_, ?_, ?_⟩
  · rw [tn_sr, tn_sn, if_neg q2, tn_sn, if_neg (by omega), tn_sn, if_neg (by omega), tn_sn, if_neg (by omega), tn_sn, if_neg (by omega)]
  · rw [tr_sr, if_neg q]; rfl
  · rw [tn_sr, tn_sn, if_pos ⟨rfl, rfl⟩]
  · rw [tn_sr, tn_sn, if_neg (by omega), tn_sn, if_neg (by omega), tn_sn, if_neg (by omega), tn_sn, if_neg (by omega), tn_sn, if_pos ⟨rfl, rfl⟩]
  · rw [tn_sr, tn_sn, if_neg (by omega), tn_sn, if_neg (by omega), tn_sn, if_neg (by omega), tn_sn, if_pos ⟨rfl, rfl⟩]
  · rw [tn_sr, tn_sn, if_neg (by omega), tn_sn, if_neg (by omega), tn_sn, if_pos ⟨rfl, rfl⟩]
  · rw [tn_sr, tn_sn, if_neg (by omega), tn_sn, if_pos ⟨rfl, rfl⟩]
  · rw [tr_sr, if_pos ⟨rfl, rfl⟩]
theorem lsz_g {e : Nat} (he : e < 12) : lsz A (15 + e) = tn A 37 e := by
  unfold lsz
  rw [if_neg (by omega), if_neg (by omega), if_neg (by omega), if_neg (by omega), show 15 + e - 15 = e by omega]
theorem lsz_l {e : Nat} (he : e < 12) : lsz A (3 + e) = tn A 26 e := by
  unfold lsz
  rw [if_neg (by omega), if_neg (by omega), if_neg (by omega), if_pos (by omega), show 3 + e - 3 = e by omega]
theorem lfam_g {e : Nat} (he : e < 12) : lfam (15 + e) = 8 := by
  unfold lfam
  rw [if_neg (by omega), if_neg (by omega), if_neg (by omega), if_neg (by omega)]
theorem lfam_l {e : Nat} (he : e < 12) : lfam (3 + e) = 3 := by
  unfold lfam
  rw [if_neg (by omega), if_neg (by omega), if_neg (by omega), if_pos (by omega)]
theorem lix_g {e k : Nat} (he : e < 12) : lix (15 + e) k = 600 * e + k := by
  unfold lix
  rw [if_neg (by omega), if_neg (by omega), show 15 + e - 15 = e by omega]
theorem lix_l {e k : Nat} (he : e < 12) : lix (3 + e) k = 600 * e + k := by
  unfold lix
  rw [if_neg (by omega), if_pos (by omega), show 3 + e - 3 = e by omega]
theorem RA.gotten {e op pl sy q t' M' : Nat} {vt : Int32} (h : RA tc a A S) (he : e < tf A 38) (hop : op < tf A 13) (hn6 : tn A 37 e < 600) (hq : GT S q (a 6 op) pl vt sy 0) (hfr : ∀ i, lv A 8 i → a 8 i ≠ q) (hL : LAdd tc a A S (15 + e) q S' t' M') : RA tc (aS a 8 (600 * e + tn A 37 e) (15 + e) q t' M') (gtG A e op pl vt sy) S' := by
  obtain ⟨L1, L2, L3, L4, L5, L6⟩ := hL
  obtain ⟨r1, r2, r3, r4, s1, s2, s3, s4, s5, s6⟩ := gtG_row (A := A) (e := e) (op := op) (pl := pl) (vt := vt) (sy := sy)
  have hSE : SE a (aS a 8 (600 * e + tn A 37 e) (15 + e) q t' M') := aS_SE (by decide)
  have hW := h.2.2
  have h12 := hW.2.1.2.1
  have he12 : e < 12 := by omega
  have hl0 : lv A 0 (15 + e) := Or.inr (Or.inr ⟨by omega, by omega⟩)
  have hz : lsz A (15 + e) = tn A 37 e := lsz_g he12
  have hn0 : lix (15 + e) (lsz A (15 + e)) = 600 * e + tn A 37 e := by rw [lix_g he12, hz]
  have hp1 : (600 * e + tn A 37 e) / 600 = e := by omega
  have hp2 : (600 * e + tn A 37 e) % 600 = tn A 37 e := by omega
  have t37 : ∀ x, x ≠ e → tn (gtG A e op pl vt sy) 37 x = tn A 37 x := fun x hx => r2 37 x (by omega) (fun z => hx z.2)
  have tne : ∀ j i, ¬ (33 ≤ j ∧ j ≤ 37) → tn (gtG A e op pl vt sy) j i = tn A j i := fun j i q1 => r2 j i (fun z => by omega) (fun z => by omega)
  have hlv : ∀ g i, lv (gtG A e op pl vt sy) g i ↔ lv A g i ∨ (g = 8 ∧ i = 600 * e + tn A 37 e) := fun g i => by
    by_cases y : g = 8
    · subst y
      show (i / 600 < tf A 38 ∧ i % 600 < tn (gtG A e op pl vt sy) 37 (i / 600)) ↔ (i / 600 < tf A 38 ∧ i % 600 < tn A 37 (i / 600)) ∨ _
      by_cases w : i / 600 = e
      · rw [w, s1]
        omega
      · rw [t37 _ w]
        exact ⟨Or.inl, fun z => z.resolve_right (fun z => w (by rw [z.2]; exact hp1))⟩
    · by_cases w : g = 3
      · subst w
        show (i / 600 < tf A 38 ∧ i % 600 < tn (gtG A e op pl vt sy) 26 (i / 600)) ↔ (i / 600 < tf A 38 ∧ i % 600 < tn A 26 (i / 600)) ∨ _
        rw [tne 26 _ (by decide)]
        exact ⟨Or.inl, fun z => z.resolve_right (fun z => y z.1)⟩
      · rw [lv_nA w y (r1 38) (r1 1) (r1 13) (r1 53)]
        exact ⟨Or.inl, fun z => z.resolve_right (fun z => y z.1)⟩
  refine h.addL (f0 := 8) (n0 := 600 * e + tn A 37 e) hl0 L1 L2 L3 L4 L5 (lfam_g he12) hn0 (by decide) (by decide) hlv (fun g i hl => aS_old hl (fun z => ?_)) (fun i => aS_23 (by decide)) (fun i => aS_50 (by decide)) aS_q (fun g i j hl hn => ?_) (fun g i j hl hn => ?_) (fun g i hl => rfl) (fun i k hl => ?_) (fun g i k hl _ _ => crv_same hSE (fun x => tne 1 x (by decide))) (fun i => ?_) ?_ ?_ (fun _ i hi _ => hfr i hi) (fun j hj => ?_) (fun j hj => ?_) (fun i k hi hk => lv_elem hW hi hk)
  · obtain ⟨rfl, rfl⟩ := z
    have z2 : (600 * e + tn A 37 e) / 600 < tf A 38 ∧ (600 * e + tn A 37 e) % 600 < tn A 37 ((600 * e + tn A 37 e) / 600) := hl
    rw [hp1, hp2] at z2
    omega
  · obtain ⟨n1, n2, n3, n4, n5, n6, n7, -⟩ := rwc_no (g := g) (j := j)
    refine civ_eq (fun r q1 q2 => r2 r i (fun z => ?_) (by omega)) (fun r q1 q2 => r3 r i (fun z => ?_)) (fun r q1 q2 => r4 r i) (fun r _ _ => r1 r) (fun _ => ⟨tne 45 i (by decide), r3 51 i (by omega), tne 50 i (by decide)⟩) (fun _ => tne 11 i (by decide))
    all_goals
      by_cases y : g = 8
      · exact hn ⟨y, z.2⟩
      · have := rwc_8 (j := j) y
        omega
  · exact cpv_same hSE (fun _ => tne 16 i (by decide)) (fun _ => tne 22 i (by decide)) (fun _ => tne 48 i (by decide)) (fun y => r2 33 i (fun z => hn ⟨y, z.2⟩) (by omega))
  · unfold cav
    rw [r3 3 _ (by omega), tne 32 _ (by decide)]
  · unfold lsz
    rw [r1 53, r1 5, r1 6]
    by_cases y : i = 15 + e
    · subst y
      rw [if_pos rfl, if_neg (by omega), if_neg (by omega), if_neg (by omega), if_neg (by omega), if_neg (by omega), if_neg (by omega), if_neg (by omega), if_neg (by omega), show 15 + e - 15 = e by omega, s1]
    · rw [if_neg y, tne 26 _ (by decide)]
      by_cases w : i < 15
      · rw [if_pos w, if_pos w]
      · rw [t37 (i - 15) (by omega)]
  · obtain ⟨w1, w2, w7, w8, w9, w10, w11, w12⟩ := hW
    refine ⟨w1, w2, fun x hx => ?_, fun i hi => ?_, fun i hi => ?_, fun i hi => ?_, fun i hi => ?_, fun w k hw hk => ?_⟩
    · have := w7 x hx
      rw [tne 26 _ (by decide)]
      by_cases y : x = e
      · rw [y, s1]
        rw [y] at this
        omega
      · rw [t37 x y]
        exact this
    · rw [tne 16 _ (by decide)]; exact w8 i hi
    · rw [tne 22 _ (by decide)]
      rcases (hlv 3 i).mp hi with y | y
      · exact w9 i y
      · omega
    · rw [tne 48 _ (by decide)]; exact w10 i hi
    · rcases (hlv 8 i).mp hi with y | y
      · by_cases z : i = 600 * e + tn A 37 e
        · rw [z, s2]; exact hop
        · rw [r2 33 i (fun q => z q.2) (by omega)]; exact w11 i y
      · rw [y.2, s2]; exact hop
    · rw [tne 1 _ (by decide)]; exact w12 w k hw hk
  · obtain ⟨h1, h2, -⟩ := hq
    obtain ⟨q1, q2, -⟩ := L1 q h1
    exact ⟨q1, q2.trans h2⟩
  · obtain ⟨h1, h2, h3, h4, h5, h6, h7⟩ := hq
    obtain ⟨-, -, -, -, -, -, q7⟩ := L1 q h1
    rcases fty8 hj with ⟨-, y⟩ | ⟨-, y⟩
    · exact absurd y (by decide)
    · rcases y with rfl | rfl | rfl | rfl
      · exact ((q7 513 (Or.inl (by decide))).1.trans h4).trans (congrArg nI s3.symm)
      · exact ((q7 514 (Or.inl (by decide))).1.trans h5).trans s6.symm
      · exact ((q7 515 (Or.inl (by decide))).1.trans h6).trans (congrArg nI s4.symm)
      · exact ((q7 516 (Or.inl (by decide))).1.trans h7).trans (congrArg nI s5.symm)
  · obtain ⟨h1, h2, h3, h4, h5, h6, h7⟩ := hq
    obtain ⟨-, -, -, -, -, -, q7⟩ := L1 q h1
    rcases fty8 hj with ⟨y, -⟩ | ⟨y, -⟩
    · subst y
      refine ((q7 512 (Or.inl (by decide))).2.trans h3).trans ?_
      show _ = some (aS a 8 (600 * e + tn A 37 e) (15 + e) q t' M' 6 (tn (gtG A e op pl vt sy) 33 (600 * e + tn A 37 e)))
      rw [s2, hSE 6 _ (by decide) (by decide) (by decide) (by decide) (by decide)]
    · exact absurd y (by decide)
/-- the k-th of the gets that wait at e goes -/
def shG (A : TS) (e k i : Nat) : Nat := if 600 * e + k ≤ i ∧ i + 1 < 600 * e + tn A 37 e then i + 1 else i
def rmG (A : TS) (e k : Nat) : TS := (A.1, fun j i => if 33 ≤ j ∧ j ≤ 36 then tn A j (shG A e k i) else if j = 37 ∧ i = e then tn A 37 e - 1 else tn A j i, fun j i => if j = 2 then tr A 2 (shG A e k i) else tr A j i, A.2.2.2)
def clG (A : TS) (e : Nat) : TS := sn A 37 e 0
/-- z' of the gets at e are left, moved by sh -/
theorem RA.shG0 {e z' : Nat} {t : Option Nat} (sh : Nat → Nat) (h : RA tc a A S) (he : e < tf A 38) (hz' : z' ≤ tn A 37 e) (hop : lop S S' (a 0 (15 + e)) t) (ho : own1 a A S (15 + e) t) (hX : LX tc S' (a 0 (15 + e)) (a 23 (15 + e)) (a 50 (15 + e)) z') (hel : ∀ k, k < z' → zR S' (a 23 (15 + e)) k = some (a 8 (sh (600 * e + k))))
    (hs1 : ∀ i, ¬ (600 * e ≤ i ∧ i < 600 * e + tn A 37 e) → sh i = i) (hs2 : ∀ i, 600 * e ≤ i → i < 600 * e + z' → 600 * e ≤ sh i ∧ sh i < 600 * e + tn A 37 e) (hsi : ∀ i j, 600 * e ≤ i → i < 600 * e + z' → 600 * e ≤ j → j < 600 * e + z' → sh i = sh j → i = j)
    (r1 : ∀ j, tf B j = tf A j) (r2 : ∀ j i, 33 ≤ j → j ≤ 36 → tn B j i = tn A j (sh i)) (r3 : ∀ j i, ¬ (33 ≤ j ∧ j ≤ 36) → ¬ (j = 37 ∧ i = e) → tn B j i = tn A j i) (r4 : tn B 37 e = z') (r5 : ∀ i, tr B 2 i = tr A 2 (sh i)) (r6 : ∀ j i, j ≠ 2 → tr B j i = tr A j i) (r7 : ∀ j i, tb B j i = tb A j i) : RA tc (aT a 8 sh) B S' := by
  have hSE : SE a (aT a 8 sh) := aT_SE (by decide)
  have hW := h.2.2
  have h12 := hW.2.1.2.1
  have he12 : e < 12 := by omega
  have h600 := (hW.2.2.1 e he).2
  have hl0 : lv A 0 (15 + e) := Or.inr (Or.inr ⟨by omega, by omega⟩)
  have tne : ∀ j i, ¬ (33 ≤ j ∧ j ≤ 37) → tn B j i = tn A j i := fun j i q1 => r3 j i (fun z => by omega) (fun z => by omega)
  have t37 : ∀ x, x ≠ e → tn B 37 x = tn A 37 x := fun x hx => r3 37 x (by omega) (fun z => hx z.2)
  have hlv : ∀ g i, g ≠ 8 → (lv B g i ↔ lv A g i) := fun g i q => by
    by_cases y : g = 3
    · subst y
      show (i / 600 < tf B 38 ∧ i % 600 < tn B 26 (i / 600)) ↔ (i / 600 < tf A 38 ∧ i % 600 < tn A 26 (i / 600))
      rw [tne 26 _ (by decide), r1]
    · exact lv_nA y q (r1 38) (r1 1) (r1 13) (r1 53)
  have hlf : ∀ i, lv B 8 i → lv A 8 (sh i) ∧ ((600 * e ≤ i ∧ i < 600 * e + z') ∨ (sh i = i ∧ i / 600 ≠ e)) := fun i z => by
    have z2 : i / 600 < tf B 38 ∧ i % 600 < tn B 37 (i / 600) := z
    rw [r1] at z2
    by_cases y : i / 600 = e
    · rw [y, r4] at z2
      have hr : 600 * e ≤ i ∧ i < 600 * e + z' := by omega
      have := hs2 i hr.1 hr.2
      refine ⟨?_, Or.inl hr⟩
      have d1 : sh i / 600 = e := by omega
      show sh i / 600 < tf A 38 ∧ sh i % 600 < tn A 37 (sh i / 600)
      rw [d1]
      exact ⟨he, by omega⟩
    · rw [t37 _ y] at z2
      have e1 : sh i = i := hs1 i (by omega)
      rw [e1]
      exact ⟨z2, Or.inr ⟨rfl, y⟩⟩
  refine RA.shr (i0 := 15 + e) (f0 := 8) (z' := z') sh h hl0 hop ho hX (lfam_g he12) (by decide) (by decide) (fun k hk => by rw [lix_g he12]; exact hel k hk) hlv (fun i z => (hlf i z).1) (fun i j zi zj e9 => ?_) (fun g i q => if_neg q) (fun i => if_pos rfl) (fun g i j q _ => ?_) (fun i j z => ?_) (fun g i j q _ => ?_) (fun i j z => ?_) (fun g i => ?_) (fun i k => ?_) (fun g i k _ => crv_same hSE (fun x => tne 1 x (by decide))) (fun i => ?_) ?_ (fun i k y hi hk w => ?_)
  · have d1 := (hlf i zi).2
    have d2 := (hlf j zj).2
    rcases d1 with d1 | d1
    · rcases d2 with d2 | d2
      · exact hsi i j d1.1 d1.2 d2.1 d2.2 e9
      · have := hs2 i d1.1 d1.2
        omega
    · rcases d2 with d2 | d2
      · have := hs2 j d2.1 d2.2
        omega
      · omega
  · obtain ⟨n1, n2, n3, n4, n5, n6, n7, -⟩ := rwc_no (g := g) (j := j)
    have n8 := rwc_8 (j := j) q
    exact civ_eq (fun r q1 q2 => tne r i (by omega)) (fun r q1 q2 => r6 r i (by omega)) (fun r q1 q2 => r7 r i) (fun r _ _ => r1 r) (fun _ => ⟨tne 45 i (by decide), r6 51 i (by decide), tne 50 i (by decide)⟩) (fun _ => tne 11 i (by decide))
  · have hc8 := rwc8 j
    unfold civ
    rcases hc8 with c | c | c | c | c
    · rw [c, cv_0 (by decide), cv_0 (by decide), r2 34 i (by decide) (by decide)]
    · rw [c, cv_0 (by decide), cv_0 (by decide), r2 35 i (by decide) (by decide)]
    · rw [c, cv_0 (by decide), cv_0 (by decide), r2 36 i (by decide) (by decide)]
    · rw [c, cv_1 (by decide) (by decide), cv_1 (by decide) (by decide)]
      exact r5 i
    · rw [c, cv_9 (by decide), cv_9 (by decide)]
  · exact cpv_same hSE (fun _ => tne 16 i (by decide)) (fun _ => tne 22 i (by decide)) (fun _ => tne 48 i (by decide)) (fun z => absurd z q)
  · rw [cpv8, cpv8, r2 33 i (by decide) (by decide), hSE 6 _ (by decide) (by decide) (by decide) (by decide) (by decide)]
  · unfold cln
    rw [r1, r1, r1]
  · unfold cav
    rw [r6 3 _ (by decide), tne 32 _ (by decide)]
  · unfold lsz
    rw [r1 53, r1 5, r1 6]
    by_cases y : i = 15 + e
    · subst y
      rw [if_pos rfl, if_neg (by omega), if_neg (by omega), if_neg (by omega), if_neg (by omega), show 15 + e - 15 = e by omega, r4]
    · rw [if_neg y, tne 26 _ (by decide)]
      by_cases w : i < 15
      · rw [if_pos w, if_pos w]
      · rw [t37 (i - 15) (by omega)]
  · obtain ⟨w1, w2, w7, w8, w9, w10, w11, w12⟩ := hW
    refine ⟨by rw [r1, r1, r1]; exact w1, by rw [r1, r1, r1, r1, r1]; exact w2, fun x hx => ?_, fun i hi => ?_, fun i hi => ?_, fun i hi => ?_, fun i hi => ?_, fun w k hw hk => ?_⟩
    · rw [r1] at hx
      have := w7 x hx
      rw [tne 26 _ (by decide)]
      by_cases y : x = e
      · rw [y, r4]
        rw [y] at this
        omega
      · rw [t37 x y]
        exact this
    · rw [tne 16 _ (by decide), r1]; exact w8 i hi
    · rw [tne 22 _ (by decide), r1]
      exact w9 i ((hlv 3 i (by decide)).mp hi)
    · rw [tne 48 _ (by decide), r1]
      exact w10 i ((hlv 4 i (by decide)).mp hi)
    · rw [r2 33 i (by decide) (by decide), r1]
      exact w11 _ (hlf i hi).1
    · rw [r1] at hw
      rw [tne 1 _ (by decide), r1]; exact w12 w k hw hk
  · have hi15 : 15 ≤ i := by
      unfold lfam at w
      by_cases z : i < 15
      · exfalso
        repeat' (split at w)
        all_goals omega
      · omega
    have hl9 : i < 3 ∨ (3 ≤ i ∧ i < 3 + tf A 38 ∧ i < 15) ∨ (15 ≤ i ∧ i < 15 + tf A 38) := hi
    have hz9 : lsz A i = tn A 37 (i - 15) := by
      have := lsz_g (A := A) (e := i - 15) (by omega)
      rwa [show 15 + (i - 15) = i by omega] at this
    have hk9 := (hW.2.2.1 (i - 15) (by omega)).2
    have hx9 : lix i k = 600 * (i - 15) + k := by
      have := lix_g (e := i - 15) (k := k) (by omega)
      rwa [show 15 + (i - 15) = i by omega] at this
    rw [hx9]
    exact hs1 _ (by omega)
end
