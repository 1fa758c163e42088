/-! ===== a witness's place; the class's lists grow and shrink ===== -/
section
variable {tc : Nat → ClassId} {a a' : Nat → Nat → Nat} {A B : TS} {S S' : HS}
theorem RA.p_plc (h : RA tc a A S) {w k t : Nat} (hw : w < tf A 1) (hk : k < tf A 2 * tf A 3) (ht : t ≤ tf A 13) : RA tc a (sn A 1 (16 * w + k) t) (setR S (a 27 w) (va_up (zR S (a 27 w)) k (opA a t))) := by
  obtain ⟨⟨f1, f2, f3, f4, f5, f6⟩, w2, w3, w4, w5, w6, w7, w8⟩ := h.2.2
  have h16 : tf A 2 * tf A 3 ≤ 4 * 4 := Nat.mul_le_mul f4 f6
  refine h.wR (g := 27) (i := w) (k := k) (v := opA a t) (show w < tf A 1 from hw) (by decide) (fun g i => ?_) (fun i g j => ?_) (fun _ _ => rfl) (fun a i g j => ?_) (fun i k => ?_) (fun i => ?_) ?_ (fun g' i' k' hlv' hg' hk' => ?_)
  · simp [lv, tn_sn, tf_sn]
  · unfold civ
    rw [cv_sn (by decide) (by decide) (by decide) (by decide), if_neg (fun z => rwn_1 z.1)]
  · simp [cpv, tn_sn]
  · simp [cav, tn_sn, tr_sn]
  · simp [lsz, tn_sn, tf_sn]
  · refine ⟨⟨f1, f2, f3, f4, f5, f6⟩, w2, by simpa [tn_sn, tf_sn] using w3, by simpa [tn_sn, tf_sn] using w4, by simpa [lv, tn_sn, tf_sn] using w5, by simpa [lv, tn_sn, tf_sn] using w6, by simpa [lv, tn_sn, tf_sn] using w7, fun x y hx hy => ?_⟩
    rw [tn_sn]
    split
    · exact ht
    · exact w8 x y hx hy
  · have e27 : ∀ (X : TS) i k, crv a X 27 i k = opA a (tn X 1 (16 * i + k)) := fun _ _ _ => rfl
    by_cases q : g' = 27
    · subst q
      rw [e27, e27]
      have hl : k' < tf A 2 * tf A 3 := hk'
      rw [tn_sn]
      by_cases y : i' = w ∧ k' = k
      · rw [if_pos (by omega), if_pos ⟨⟨rfl, y.1⟩, y.2⟩]
      · rw [if_neg (by omega), if_neg (fun z => y ⟨z.1.2, z.2⟩)]
    · rw [if_neg (fun z => q z.1.1)]
      have hg : g' = 24 ∨ g' = 25 ∨ g' = 26 := by
        have key : ∀ g i, lv A g i → 24 ≤ g → g = 24 ∨ g = 25 ∨ g = 26 ∨ g = 27 := by
          intro g i z y
          unfold lv at z
          split at z <;> first | omega | exact absurd z id
        have := key g' i' hlv' hg'
        omega
      rcases hg with rfl | rfl | rfl <;> rfl
/-- what an array's owner is: the list i0 alone -/
def own1 (a : Nat → Nat → Nat) (A : TS) (S : HS) (i0 : Nat) (t : Option Nat) : Prop := ∀ x, t = some x → x ∉ zL S ∨ (x = a 23 i0 ∧ a 50 i0 ≠ 0)
theorem own1.kind {i0 : Nat} {t : Option Nat} (h : RA tc a A S) (hl : lv A 0 i0) (ho : own1 a A S i0 t) : ∀ x, t = some x → x ∈ zL S → zK S x = 23 := by
  intro x hx hm
  rcases ho x hx with q | ⟨q, r⟩
  · exact absurd hm q
  · rw [q]
    exact ((h.2.1.1 i0 hl).1.arr r).2.1
theorem own1.ne {i0 i : Nat} {t : Option Nat} (h : RA tc a A S) (hl : lv A 0 i0) (hi : lv A 0 i) (hne : i ≠ i0) (hM : a 50 i ≠ 0) (ho : own1 a A S i0 t) : t ≠ some (a 23 i) := by
  intro z
  rcases ho _ z with q | ⟨q, r⟩
  · exact q ((h.2.1.1 i hi).1.arr hM).1
  · exact hne (h.2.1.2 i i0 hi hl hM r q)
/-- the other lists are as they were -/
theorem RA.rest {i0 i : Nat} {t : Option Nat} (h : RA tc a A S) (hl : lv A 0 i0) (hop : lop S S' (a 0 i0) t) (ho : own1 a A S i0 t) (hi : lv A 0 i) (hne : i ≠ i0) : LX tc S' (a 0 i) (a 23 i) (a 50 i) (lsz A i) ∧ ∀ k, k < lsz A i → zR S' (a 23 i) k = some (a (lfam i) (lix i k)) := by
  obtain ⟨q1, q2⟩ := h.2.1.1 i hi
  have hb := hop _ (h.1.1 0 i hi).1
  have hbn : a 0 i ≠ a 0 i0 := fun z => hne (h.1.2.1 0 i i0 (by decide) hi hl z)
  refine ⟨q1.ext hb.1 hb.2.1 (hb.2.2.2.2.2.2 1 (Or.inr hbn)).2 (hb.2.2.2.2.2.2 2 (Or.inr hbn)).1 (fun ht => ⟨(hop _ ht).1, (hop _ ht).2.1, (hop _ ht).2.2.1⟩), fun k hk => ?_⟩
  have hM : a 50 i ≠ 0 := fun z => by
    have := q1.2.2.2.2.1
    omega
  rw [(hop _ (q1.arr hM).1).2.2.2.2.2.1 (ho.ne h hl hi hne hM)]
  exact q2 k hk
/-- a list gets one more -/
theorem RA.addL {i0 t' M' q f0 n0 : Nat} (h : RA tc a A S) (hl : lv A 0 i0) (hop : lop S S' (a 0 i0) (some t')) (ho : own1 a A S i0 (some t')) (hX : LX tc S' (a 0 i0) t' M' (lsz A i0 + 1)) (hel : ∀ k, k < lsz A i0 → zR S' t' k = zR S (a 23 i0) k) (hnew : zR S' t' (lsz A i0) = some q) (hf : lfam i0 = f0) (hn : lix i0 (lsz A i0) = n0) (h3 : 3 ≤ f0) (h9 : f0 < 9)
    (hlv : ∀ g i, lv B g i ↔ lv A g i ∨ (g = f0 ∧ i = n0)) (ha : ∀ g i, lv A g i → a' g i = a g i) (ha23 : ∀ i, a' 23 i = if i = i0 then t' else a 23 i) (ha50 : ∀ i, a' 50 i = if i = i0 then M' else a 50 i) (haq : a' f0 n0 = q)
    (hc : ∀ g i j, lv A g i → ¬ (g = f0 ∧ i = n0) → civ B i g j = civ A i g j) (hp : ∀ g i j, lv A g i → ¬ (g = f0 ∧ i = n0) → cpv a' B i g j = cpv a A i g j)
    (hcl : ∀ g i, lv A g i → cln B g i = cln A g i) (hca : ∀ i k, lv A 20 i → cav B i k = cav A i k) (hcr : ∀ g i k, lv A g i → 24 ≤ g → k < cln A g i → crv a' B g i k = crv a A g i k)
    (hls : ∀ i, lsz B i = if i = i0 then lsz A i + 1 else lsz A i) (hW : WF B)
    (hq1 : q ∈ zL S' ∧ zK S' q = f0) (hq2 : f0 ≠ 4 → ∀ i, lv A f0 i → i ≠ n0 → a f0 i ≠ q) (hq3 : ∀ j, (fty f0)[j]? = some true → zI S' (64 * f0 + j) q = civ B n0 f0 j) (hq4 : ∀ j, (fty f0)[j]? = some false → zP S' (64 * f0 + j) q = cpv a' B n0 f0 j)
    (hlx : ∀ i k, lv A 0 i → k < lsz A i → lv A (lfam i) (lix i k)) : RA tc a' B S' := by
  have hold : ∀ {g i : Nat}, lv B g i → ¬ (g = f0 ∧ i = n0) → lv A g i := fun {g i} z y => ((hlv g i).mp z).resolve_right y
  obtain ⟨k1, k2, k3, k4, k5, k6, k7⟩ := h.1.lop hop (ho.kind h hl)
  refine ⟨⟨fun g i hi => ?_, fun g i j e4 hi hj e => ?_, fun g i j hi e1 e2 hj => ?_, fun g i j hi e1 e2 hj => ?_, fun g i hi e1 => ?_, fun i k hi hk => ?_, fun g i k hi e1 hk => ?_⟩, ⟨fun i hi => ?_, fun i j hi hj m1 m2 e => ?_⟩, hW⟩
  · by_cases y : g = f0 ∧ i = n0
    · obtain ⟨rfl, rfl⟩ := y
      rw [haq]
      exact hq1
    · rw [ha g i (hold hi y)]
      exact k1 g i (hold hi y)
  · by_cases y : g = f0 ∧ i = n0
    · obtain ⟨rfl, rfl⟩ := y
      by_cases w : j = i
      · exact w.symm
      · have hj' := hold hj (fun z => w z.2)
        rw [haq, ha _ _ hj'] at e
        exact absurd e.symm (hq2 e4 j hj' w)
    · have hi' := hold hi y
      by_cases y2 : g = f0 ∧ j = n0
      · obtain ⟨rfl, rfl⟩ := y2
        rw [haq, ha _ _ hi'] at e
        exact absurd e (hq2 e4 i hi' (fun z => y ⟨rfl, z⟩))
      · have hj' := hold hj y2
        rw [ha _ _ hi', ha _ _ hj'] at e
        exact k2 g i j e4 hi' hj' e
  · by_cases y : g = f0 ∧ i = n0
    · obtain ⟨rfl, rfl⟩ := y
      rw [haq]
      exact hq3 j hj
    · have hi' := hold hi y
      rw [ha _ _ hi', hc g i j hi' y]
      exact k3 g i j hi' e1 e2 hj
  · by_cases y : g = f0 ∧ i = n0
    · obtain ⟨rfl, rfl⟩ := y
      rw [haq]
      exact hq4 j hj
    · have hi' := hold hi y
      rw [ha _ _ hi', hp g i j hi' y]
      exact k4 g i j hi' e1 e2 hj
  · have hi' := hold hi (fun z => by omega)
    rw [ha _ _ hi', hcl g i hi']
    exact k5 g i hi' e1
  · have hi' := hold hi (fun z => by omega)
    rw [hcl _ _ hi'] at hk
    rw [ha _ _ hi', hca i k hi']
    exact k6 i k hi' hk
  · have hi' := hold hi (fun z => by omega)
    rw [hcl _ _ hi'] at hk
    rw [ha _ _ hi', hcr g i k hi' e1 hk]
    exact k7 g i k hi' e1 hk
  · have hi' := hold hi (fun z => by omega)
    rw [ha _ _ hi', ha23, ha50, hls]
    by_cases y : i = i0
    · subst y
      rw [if_pos rfl, if_pos rfl, if_pos rfl]
      refine ⟨hX, fun k hk => ?_⟩
      by_cases w : k < lsz A i
      · rw [hel k w, (h.2.1.1 i hl).2 k w, ha _ _ (hlx i k hl w)]
      · obtain rfl : k = lsz A i := by omega
        rw [hnew, hf, hn, haq]
    · rw [if_neg y, if_neg y, if_neg y]
      obtain ⟨r1, r2⟩ := h.rest hl hop ho hi' y
      refine ⟨r1, fun k hk => ?_⟩
      rw [r2 k hk, ha _ _ (hlx i k hi' hk)]
  · have hi' := hold hi (fun z => by omega)
    have hj' := hold hj (fun z => by omega)
    rw [ha50] at m1 m2
    rw [ha23, ha23] at e
    by_cases y : i = i0
    · by_cases w : j = i0
      · rw [y, w]
      · rw [if_pos y, if_neg w] at e
        rw [if_neg w] at m2
        exact absurd (congrArg some e) (ho.ne h hl hj' w m2)
    · by_cases w : j = i0
      · rw [if_neg y, if_pos w] at e
        rw [if_neg y] at m1
        exact absurd (congrArg some e.symm) (ho.ne h hl hi' y m1)
      · rw [if_neg y, if_neg w] at e
        rw [if_neg y] at m1
        rw [if_neg w] at m2
        exact h.2.1.2 i j hi' hj' m1 m2 e
/-- a list loses some: what stands at i now stood at sh i -/
theorem RA.shr {i0 f0 z' : Nat} {t : Option Nat} (sh : Nat → Nat) (h : RA tc a A S) (hl : lv A 0 i0) (hop : lop S S' (a 0 i0) t) (ho : own1 a A S i0 t) (hX : LX tc S' (a 0 i0) (a 23 i0) (a 50 i0) z') (hf : lfam i0 = f0) (h3 : 3 ≤ f0) (h9 : f0 < 9) (hel : ∀ k, k < z' → zR S' (a 23 i0) k = some (a f0 (sh (lix i0 k))))
    (hlv : ∀ g i, g ≠ f0 → (lv B g i ↔ lv A g i)) (hlf : ∀ i, lv B f0 i → lv A f0 (sh i)) (hsi : ∀ i j, lv B f0 i → lv B f0 j → sh i = sh j → i = j) (ha : ∀ g i, g ≠ f0 → a' g i = a g i) (haf : ∀ i, a' f0 i = a f0 (sh i))
    (hc : ∀ g i j, g ≠ f0 → lv A g i → civ B i g j = civ A i g j) (hcf : ∀ i j, lv B f0 i → civ B i f0 j = civ A (sh i) f0 j) (hp : ∀ g i j, g ≠ f0 → lv A g i → cpv a' B i g j = cpv a A i g j) (hpf : ∀ i j, lv B f0 i → cpv a' B i f0 j = cpv a A (sh i) f0 j)
    (hcl : ∀ g i, cln B g i = cln A g i) (hca : ∀ i k, cav B i k = cav A i k) (hcr : ∀ g i k, 24 ≤ g → crv a' B g i k = crv a A g i k)
    (hls : ∀ i, lsz B i = if i = i0 then z' else lsz A i) (hW : WF B) (hoth : ∀ i k, i ≠ i0 → lv A 0 i → k < lsz A i → lfam i = f0 → sh (lix i k) = lix i k) : RA tc a' B S' := by
  obtain ⟨k1, k2, k3, k4, k5, k6, k7⟩ := h.1.lop hop (ho.kind h hl)
  refine ⟨⟨fun g i hi => ?_, fun g i j e4 hi hj e => ?_, fun g i j hi e1 e2 hj => ?_, fun g i j hi e1 e2 hj => ?_, fun g i hi e1 => ?_, fun i k hi hk => ?_, fun g i k hi e1 hk => ?_⟩, ⟨fun i hi => ?_, fun i j hi hj m1 m2 e => ?_⟩, hW⟩
  · by_cases y : g = f0
    · subst y
      rw [haf]
      exact k1 _ _ (hlf i hi)
    · rw [ha g i y]
      exact k1 g i ((hlv g i y).mp hi)
  · by_cases y : g = f0
    · subst y
      rw [haf, haf] at e
      exact hsi i j hi hj (k2 _ _ _ e4 (hlf i hi) (hlf j hj) e)
    · rw [ha g i y, ha g j y] at e
      exact k2 g i j e4 ((hlv g i y).mp hi) ((hlv g j y).mp hj) e
  · by_cases y : g = f0
    · subst y
      rw [haf, hcf i j hi]
      exact k3 _ _ _ (hlf i hi) e1 e2 hj
    · have hi' := (hlv g i y).mp hi
      rw [ha g i y, hc g i j y hi']
      exact k3 g i j hi' e1 e2 hj
  · by_cases y : g = f0
    · subst y
      rw [haf, hpf i j hi]
      exact k4 _ _ _ (hlf i hi) e1 e2 hj
    · have hi' := (hlv g i y).mp hi
      rw [ha g i y, hp g i j y hi']
      exact k4 g i j hi' e1 e2 hj
  · have y : g ≠ f0 := by omega
    rw [ha g i y, hcl]
    exact k5 g i ((hlv g i y).mp hi) e1
  · have y : 20 ≠ f0 := by omega
    rw [hcl] at hk
    rw [ha 20 i y, hca]
    exact k6 i k ((hlv 20 i y).mp hi) hk
  · have y : g ≠ f0 := by omega
    rw [hcl] at hk
    rw [ha g i y, hcr g i k e1]
    exact k7 g i k ((hlv g i y).mp hi) e1 hk
  · have hi' := (hlv 0 i (by omega)).mp hi
    rw [ha 0 i (by omega), ha 23 i (by omega), ha 50 i (by omega), hls]
    by_cases y : i = i0
    · subst y
      rw [if_pos rfl]
      refine ⟨hX, fun k hk => ?_⟩
      rw [hel k hk, hf, haf]
    · rw [if_neg y]
      obtain ⟨r1, r2⟩ := h.rest hl hop ho hi' y
      refine ⟨r1, fun k hk => ?_⟩
      rw [r2 k hk]
      by_cases w : lfam i = f0
      · rw [w, haf, hoth i k y hi' hk w]
      · rw [ha _ _ w]
  · rw [ha 50 i (by omega)] at m1
    rw [ha 50 j (by omega)] at m2
    rw [ha 23 i (by omega), ha 23 j (by omega)] at e
    exact h.2.1.2 i j ((hlv 0 i (by omega)).mp hi) ((hlv 0 j (by omega)).mp hj) m1 m2 e
end
