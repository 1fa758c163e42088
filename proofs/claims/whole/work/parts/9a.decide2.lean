/-! ===== records are replayed: both sides ===== -/
section
variable {K : Nat} {A B T X : TS}
def stE (e op : Nat) (G : TS) : TS := if placeF G e op = 0 ∧ hgF G e op (tn G 26 e) = false then apC G e op false else G
/-- is the p-th pair of a client and an operation one that is held -/
def acB (T : TS) (w p : Nat) : Bool := decide (p % 600 < tf T 13) && (decide (tn T 5 (p % 600) = p / 600) && holdF T w (p % 600))
def lpL (T : TS) (e w : Nat) : Nat → TS
  | 0 => T
  | p + 1 => if acB T w p = true then stE e (p % 600) (lpL T e w p) else lpL T e w p
theorem acB_iff {w p : Nat} : acB T w p = true ↔ p % 600 < tf T 13 ∧ tn T 5 (p % 600) = p / 600 ∧ holdF T w (p % 600) = true := by
  unfold acB
  rw [Bool.and_eq_true, Bool.and_eq_true, decide_eq_true_eq, decide_eq_true_eq]
theorem lpL_skip {e w p : Nat} : ∀ t, (∀ q, p ≤ q → q < p + t → acB T w q = false) → lpL T e w (p + t) = lpL T e w p
  | 0, _ => rfl
  | t + 1, h => by
    show (if acB T w (p + t) = true then stE e ((p + t) % 600) (lpL T e w (p + t)) else lpL T e w (p + t)) = _
    rw [h (p + t) (by omega) (by omega), if_neg (by decide)]
    exact lpL_skip t (fun q a b => h q a (by omega))
theorem lpL_skip' {e w p p' : Nat} (hp : p ≤ p') (h : ∀ q, p ≤ q → q < p' → acB T w q = false) : lpL T e w p' = lpL T e w p := by
  have := lpL_skip (T := T) (e := e) (w := w) (p := p) (p' - p) (fun q a b => h q a (by omega))
  rwa [show p + (p' - p) = p' by omega] at this
/-- what stays while records are replayed -/
def rpI (T : TS) (K e : Nat) (G : TS) : Prop := INV K G ∧ (∀ j, tf G j = tf T j) ∧ (∀ j i, j ≠ 22 → j ≠ 26 → tn G j i = tn T j i) ∧ (∀ x, x ≠ e → tn G 26 x = tn T 26 x) ∧ tn T 26 e ≤ tn G 26 e
theorem stE_I {G : TS} {e op : Nat} (h : rpI T K e G) (he : e < tf T 38) (ho : op < tf T 13) (hu : tn T 7 op ≠ 2) : rpI T (K + 1) e (stE e op G) := by
  obtain ⟨h1, h2, h3, h4, h5⟩ := h
  unfold stE
  split
  · rename_i z
    obtain ⟨r1, r2, r3, r4, s1, s2, s3, s4, s5⟩ := apC_row (A := G) (e := e) (op := op) (late := false)
    exact ⟨h1.app (by rw [h2]; exact he) (by rw [h2]; exact ho) (by rw [h3 7 _ (by decide) (by decide)]; exact hu) z.1, fun j => (r1 j).trans (h2 j), fun j i a b => (r2 j i (fun t => a t.1) (fun t => b t.1)).trans (h3 j i a b), fun x a => (r2 26 x (by omega) (fun t => a t.2)).trans (h4 x a), by rw [s1]; omega⟩
  · exact ⟨h1.mono (by omega), h2, h3, h4, h5⟩
/-- what is held is known, an update -/
theorem hold_ok {w op : Nat} (h : INV K T) (hw : w < tf T 1) (hh : holdF T w op = true) : op < tf T 13 ∧ tn T 7 op ≠ 2 ∧ ∃ i, i < tf T 2 * tf T 3 ∧ plW T w i = op + 1 := by
  obtain ⟨q1, q2, q3, q4⟩ := h.wi hw
  obtain ⟨k, hk, e⟩ := (hoF_iff _).mp hh
  obtain ⟨a, i, hi, ei⟩ := q1 k hk
  rw [e] at a ei
  refine ⟨a, ?_, i, hi, ei⟩
  have := (q2 i hi (by omega)).2.1
  rw [ei, show op + 1 - 1 = op by omega] at this
  exact this
theorem pl_hold {w i : Nat} (h : INV K T) (hw : w < tf T 1) (hi : i < tf T 2 * tf T 3) (hz : plW T w i ≠ 0) : holdF T w (plW T w i - 1) = true := by
  obtain ⟨q1, q2, q3, q4⟩ := h.wi hw
  obtain ⟨⟨k, hk, e⟩, -⟩ := q2 i hi hz
  refine (hoF_iff _).mpr ⟨k, hk, ?_⟩
  have e' : tn T 43 (16 * w + k) + 1 = plW T w i := e
  omega
theorem lpL_I {e w : Nat} (h : INV K T) (he : e < tf T 38) (hw : w < tf T 1) : ∀ p, rpI T (K + p) e (lpL T e w p)
  | 0 => ⟨h, fun _ => rfl, fun _ _ _ _ => rfl, fun _ _ => rfl, Nat.le_refl _⟩
  | p + 1 => by
    have ih := lpL_I h he hw p
    unfold lpL
    split
    · rename_i z
      obtain ⟨a, b, c⟩ := acB_iff.mp z
      exact stE_I ih he a (hold_ok h hw c).2.1
    · obtain ⟨h1, h2, h3, h4, h5⟩ := ih
      exact ⟨h1.mono (by omega), h2, h3, h4, h5⟩
theorem lpL_mom {e w : Nat} (h : iMom T) : ∀ p, iMom (lpL T e w p)
  | 0 => h
  | p + 1 => by
    have ih := lpL_mom (e := e) (w := w) h p
    unfold lpL
    split
    · unfold stE
      split
      · exact ih.app
      · exact ih
    · exact ih
/-- the reference's loops -/
theorem rpS_EQ {e w c k : Nat} {G M : TS} (hM : INV K M) (he : e < tf M 38) (hE : EQ G M) : EQ (rpS e w c k G) (if tn M 5 k = c ∧ holdF M w k = true then stE e k M else M) := by
  have e26 : tn G 26 e = tn M 26 e := hE.2.1 26 e (by decide)
  have hpl : placeF G e k = placeF M e k := placeF_same e k (fun i => hE.2.1 22 i (by decide)) e26
  have hhg : hgF G e k (tn G 26 e) = hgF M e k (tn M 26 e) := by
    rw [e26]
    exact hgF_same (fun i => hE.2.1 22 i (by decide)) (fun i => hE.2.1 5 i (by decide)) (fun i => hE.2.1 6 i (by decide)) _
  have hho : holdF G w k = holdF M w k := by
    unfold holdF
    rw [hE.2.1 44 w (by decide)]
    exact hoF_same (fun i => hE.2.1 43 i (by decide)) _
  unfold rpS
  rw [hE.2.1 5 k (by decide), hho, hpl, hhg]
  by_cases y : tn M 5 k = c ∧ holdF M w k = true
  · rw [if_pos y]
    unfold stE
    by_cases z : placeF M e k = 0 ∧ hgF M e k (tn M 26 e) = false
    · rw [if_pos ⟨y.1, y.2, z⟩, if_pos z, apC_is hM he]
      refine EQ.or ?_ (Or.inr (Or.inr rfl))
      have hva : vaF G e (tn G 8 k) (tn G 26 e) = vaF M e (tn M 8 k) (tn M 26 e) := by
        rw [hE.2.1 8 k (by decide), e26]
        exact vaF_same (fun i => hE.2.1 22 i (by decide)) (fun i => hE.2.1 7 i (by decide)) (fun i => hE.2.1 8 i (by decide)) (fun i => hE.2.2.1 9 i (by decide) (by decide) (by decide)) e _ _
      unfold appF
      rw [hva, e26, hE.2.1 7 k (by decide), hE.2.2.1 9 k (by decide) (by decide) (by decide)]
      exact ((((hE.sn _ _ _).sr _ _ _).sb _ _ _).sb _ _ _).sn _ _ _
    · rw [if_neg z, if_neg (fun t => z t.2.2)]
      exact hE
  · rw [if_neg y, if_neg (fun t => y ⟨t.1, t.2.1⟩)]
    exact hE
theorem rpL_EQ {e w c : Nat} {D : TS} (h : INV K T) (he : e < tf T 38) (hw : w < tf T 1) (hE : EQ D (lpL T e w (600 * c))) : ∀ k, k ≤ tf T 13 → EQ (rpL D e w c k) (lpL T e w (600 * c + k))
  | 0, _ => hE
  | k + 1, hk => by
    have ih := rpL_EQ h he hw hE k (by omega)
    have h600 := h.1.2.2.2.2.1
    obtain ⟨i1, i2, i3, i4, i5⟩ := lpL_I h he hw (600 * c + k)
    have q := rpS_EQ (c := c) (k := k) (w := w) (e := e) i1 (by rw [i2]; exact he) ih
    have e1 : (600 * c + k) % 600 = k := by omega
    have e2 : (600 * c + k) / 600 = c := by omega
    have hho : holdF (lpL T e w (600 * c + k)) w k = holdF T w k := by
      unfold holdF
      rw [i3 44 w (by decide) (by decide)]
      exact hoF_same (fun i => i3 43 i (by decide) (by decide)) _
    rw [i3 5 k (by decide) (by decide), hho] at q
    show EQ (rpS e w c k (rpL D e w c k)) (if acB T w (600 * c + k) = true then stE e ((600 * c + k) % 600) (lpL T e w (600 * c + k)) else lpL T e w (600 * c + k))
    rw [e1]
    by_cases y : tn T 5 k = c ∧ holdF T w k = true
    · rw [if_pos y] at q
      rw [if_pos (acB_iff.mpr (by rw [e1, e2]; exact ⟨by omega, y⟩))]
      exact q
    · rw [if_neg y] at q
      rw [if_neg (fun t => y (by have := acB_iff.mp t; rw [e1, e2] at this; exact this.2))]
      exact q
theorem rpO_EQ {e w : Nat} {D : TS} (h : INV K T) (he : e < tf T 38) (hw : w < tf T 1) (hE : EQ D T) : ∀ c, EQ (rpO D e w c) (lpL T e w (600 * c))
  | 0 => hE
  | c + 1 => by
    have ih := rpO_EQ h he hw hE c
    have h600 := h.1.2.2.2.2.1
    have e13 : tf (rpO D e w c) 13 = tf T 13 := (ih.1 13 (by decide) (by decide)).trans ((lpL_I h he hw (600 * c)).2.1 13)
    have q := rpL_EQ (c := c) h he hw ih (tf T 13) (Nat.le_refl _)
    show EQ (rpL (rpO D e w c) e w c (tf (rpO D e w c) 13)) _
    rw [e13]
    have s := lpL_skip' (T := T) (e := e) (w := w) (p := 600 * c + tf T 13) (p' := 600 * (c + 1)) (by omega) (fun z a b => by
      rw [← Bool.not_eq_true]
      intro t
      have := (acB_iff.mp t).1
      omega)
    rw [s]
    exact q
/-! the class's loop -/
theorem cbF_iff {x y : Nat} (h : INV K T) (hx : x < tf T 13) (hy : y < tf T 13) : cbF T x y = true ↔ 600 * tn T 5 y + y < 600 * tn T 5 x + x := by
  have h600 := h.1.2.2.2.2.1
  have h4 := h.2.1.2.2.2.1
  unfold cbF
  rw [decide_eq_true_eq]
  constructor
  · rintro (a | ⟨a, b⟩)
    · omega
    · have : y < x := by
        rcases Nat.lt_trichotomy y x with z | z | z
        · exact z
        · rw [z] at b; omega
        · have := h4 x y z hy a; omega
      omega
  · intro a
    rcases Nat.lt_trichotomy (tn T 5 y) (tn T 5 x) with z | z | z
    · exact Or.inl z
    · refine Or.inr ⟨z.symm, h4 y x (by omega) hx z⟩
    · omega
/-- the next one in the order: a candidate behind lo, none before it -/
theorem nbF_ok {w lo : Nat} (h : INV K T) (hpl : ∀ i, i < tf T 2 * tf T 3 → plW T w i ≤ tf T 13) (hlo : lo ≤ tf T 13) : ∀ n, n ≤ tf T 2 * tf T 3 → (nbF T w lo n = 0 → ∀ i, i < n → plW T w i ≠ 0 → ¬ (lo = 0 ∨ 600 * tn T 5 (lo - 1) + (lo - 1) < 600 * tn T 5 (plW T w i - 1) + (plW T w i - 1))) ∧ (nbF T w lo n ≠ 0 → (∃ i, i < n ∧ plW T w i = nbF T w lo n) ∧ (lo = 0 ∨ 600 * tn T 5 (lo - 1) + (lo - 1) < 600 * tn T 5 (nbF T w lo n - 1) + (nbF T w lo n - 1)) ∧ ∀ i, i < n → plW T w i ≠ 0 → (lo = 0 ∨ 600 * tn T 5 (lo - 1) + (lo - 1) < 600 * tn T 5 (plW T w i - 1) + (plW T w i - 1)) → 600 * tn T 5 (nbF T w lo n - 1) + (nbF T w lo n - 1) ≤ 600 * tn T 5 (plW T w i - 1) + (plW T w i - 1))
  | 0, _ => ⟨fun _ i hi => absurd hi (Nat.not_lt_zero _), fun z => absurd rfl z⟩
  | n + 1, hn => by
    obtain ⟨p1, p2⟩ := nbF_ok h hpl hlo n (by omega)
    have hp := hpl n (by omega)
    have c1 : plW T w n ≠ 0 → lo ≠ 0 → (cbF T (plW T w n - 1) (lo - 1) = true ↔ 600 * tn T 5 (lo - 1) + (lo - 1) < 600 * tn T 5 (plW T w n - 1) + (plW T w n - 1)) := fun a b => cbF_iff h (by omega) (by omega)
    have hnb : nbF T w lo n ≠ 0 → nbF T w lo n ≤ tf T 13 := fun a => by
      obtain ⟨⟨i, hi, e⟩, -⟩ := p2 a
      rw [← e]
      exact hpl i (by omega)
    have c2 : plW T w n ≠ 0 → nbF T w lo n ≠ 0 → (cbF T (nbF T w lo n - 1) (plW T w n - 1) = true ↔ 600 * tn T 5 (plW T w n - 1) + (plW T w n - 1) < 600 * tn T 5 (nbF T w lo n - 1) + (nbF T w lo n - 1)) := fun a b => cbF_iff h (by have := hnb b; omega) (by omega)
    have cand : plW T w n ≠ 0 → ((lo = 0 ∨ cbF T (plW T w n - 1) (lo - 1) = true) ↔ (lo = 0 ∨ 600 * tn T 5 (lo - 1) + (lo - 1) < 600 * tn T 5 (plW T w n - 1) + (plW T w n - 1))) := fun a => by
      by_cases z : lo = 0
      · simp [z]
      · rw [c1 a z]
    unfold nbF
    by_cases y : plW T w n ≠ 0 ∧ (lo = 0 ∨ cbF T (plW T w n - 1) (lo - 1) = true) ∧ (nbF T w lo n = 0 ∨ cbF T (nbF T w lo n - 1) (plW T w n - 1) = true)
    · rw [if_pos y]
      obtain ⟨y1, y2, y3⟩ := y
      refine ⟨fun z => absurd z y1, fun _ => ⟨⟨n, by omega, rfl⟩, (cand y1).mp y2, fun i hi hz hc => ?_⟩⟩
      by_cases e : i = n
      · rw [e]; exact Nat.le_refl _
      · by_cases z : nbF T w lo n = 0
        · exact absurd hc (p1 z i (by omega) hz)
        · have a := (c2 y1 z).mp (y3.resolve_left z)
          have b := (p2 z).2.2 i (by omega) hz hc
          omega
    · rw [if_neg y]
      refine ⟨fun z i hi hz hc => ?_, fun z => ?_⟩
      · by_cases e : i = n
        · rw [e] at hz hc
          exact y ⟨hz, (cand hz).mpr hc, Or.inl z⟩
        · exact p1 z i (by omega) hz hc
      · obtain ⟨⟨i0, hi0, e0⟩, q2, q3⟩ := p2 z
        refine ⟨⟨i0, by omega, e0⟩, q2, fun i hi hz hc => ?_⟩
        by_cases e : i = n
        · rw [e] at hz hc ⊢
          rcases Nat.lt_or_ge (600 * tn T 5 (plW T w n - 1) + (plW T w n - 1)) (600 * tn T 5 (nbF T w lo n - 1) + (nbF T w lo n - 1)) with t | t
          · exact absurd ⟨hz, (cand hz).mpr hc, Or.inr ((c2 hz z).mpr t)⟩ y
          · exact t
        · exact q3 i (by omega) hz hc
theorem nbF_same {w lo : Nat} (h1 : ∀ i, tn B 1 i = tn A 1 i) (h5 : ∀ i, tn B 5 i = tn A 5 i) (h6 : ∀ i, tn B 6 i = tn A 6 i) : ∀ n, nbF B w lo n = nbF A w lo n
  | 0 => rfl
  | n + 1 => by
    have hc : ∀ x y, cbF B x y = cbF A x y := fun x y => by unfold cbF; rw [h5, h5, h6, h6]
    have hp : plW B w n = plW A w n := h1 _
    unfold nbF
    rw [nbF_same h1 h5 h6 n, hc, hc, hp]
/-- the class's loop: where it stands -/
theorem trL_ok {e w : Nat} (h : INV K T) (he : e < tf T 38) (hw : w < tf T 1) : ∀ n, (trL T e w n).2 ≤ tf T 13 ∧ ((trL T e w n).2 ≠ 0 → (trL T e w n).1 = lpL T e w (600 * tn T 5 ((trL T e w n).2 - 1) + ((trL T e w n).2 - 1)) ∧ (∃ i, i < tf T 2 * tf T 3 ∧ plW T w i = (trL T e w n).2)) ∧ ((trL T e w n).2 = 0 → (trL T e w n).1 = lpL T e w 2400) := by
  have h600 := h.1.2.2.2.2.1
  have h5 := h.2.1.2.2.1
  have hpl : ∀ i, i < tf T 2 * tf T 3 → plW T w i ≤ tf T 13 := fun i hi => by
    by_cases z : plW T w i = 0
    · omega
    · have := (hold_ok h hw (pl_hold h hw hi z)).1
      omega
  -- an active place is a held operation at its own key
  have act : ∀ q, acB T w q = true → ∃ i, i < tf T 2 * tf T 3 ∧ plW T w i ≠ 0 ∧ q = 600 * tn T 5 (plW T w i - 1) + (plW T w i - 1) := fun q hq => by
    obtain ⟨a, b, c⟩ := acB_iff.mp hq
    obtain ⟨-, -, i, hi, ei⟩ := hold_ok h hw c
    refine ⟨i, hi, by omega, ?_⟩
    rw [ei, show q % 600 + 1 - 1 = q % 600 by omega, b]
    omega
  have key_lt : ∀ x, x < tf T 13 → 600 * tn T 5 x + x < 2400 := fun x hx => by
    have := h5 x hx
    omega
  intro n
  induction n with
  | zero =>
    show nbF T w 0 (tf T 2 * tf T 3) ≤ tf T 13 ∧ _
    obtain ⟨p1, p2⟩ := nbF_ok (w := w) (lo := 0) h hpl (Nat.zero_le _) (tf T 2 * tf T 3) (Nat.le_refl _)
    refine ⟨?_, fun z => ?_, fun z => ?_⟩
    · by_cases z : nbF T w 0 (tf T 2 * tf T 3) = 0
      · omega
      · obtain ⟨⟨i, hi, ei⟩, -⟩ := p2 z
        rw [← ei]; exact hpl i hi
    · have z' : nbF T w 0 (tf T 2 * tf T 3) ≠ 0 := z
      obtain ⟨⟨i, hi, ei⟩, -, q⟩ := p2 z'
      refine ⟨?_, i, hi, ei⟩
      show T = lpL T e w (600 * tn T 5 (nbF T w 0 (tf T 2 * tf T 3) - 1) + (nbF T w 0 (tf T 2 * tf T 3) - 1))
      rw [lpL_skip' (p := 0) (Nat.zero_le _) (fun x _ hx => ?_)]
      · rfl
      · rw [← Bool.not_eq_true]
        intro t
        obtain ⟨i', hi', hz', ex⟩ := act x t
        have := q i' hi' hz' (Or.inl rfl)
        omega
    · have z' : nbF T w 0 (tf T 2 * tf T 3) = 0 := z
      show T = lpL T e w 2400
      rw [lpL_skip' (p := 0) (Nat.zero_le _) (fun x _ hx => ?_)]
      · rfl
      · rw [← Bool.not_eq_true]
        intro t
        obtain ⟨i', hi', hz', ex⟩ := act x t
        exact p1 z' i' hi' hz' (Or.inl rfl)
  | succ n ih =>
    obtain ⟨i1, i2, i3⟩ := ih
    show (trS e w (trL T e w n)).2 ≤ _ ∧ ((trS e w (trL T e w n)).2 ≠ 0 → (trS e w (trL T e w n)).1 = lpL T e w (600 * tn T 5 ((trS e w (trL T e w n)).2 - 1) + ((trS e w (trL T e w n)).2 - 1)) ∧ (∃ i, i < tf T 2 * tf T 3 ∧ plW T w i = (trS e w (trL T e w n)).2)) ∧ ((trS e w (trL T e w n)).2 = 0 → (trS e w (trL T e w n)).1 = lpL T e w 2400)
    by_cases z : (trL T e w n).2 = 0
    · have e1 : trS e w (trL T e w n) = trL T e w n := by unfold trS; rw [if_pos z]
      rw [e1]
      exact ⟨i1, i2, i3⟩
    · obtain ⟨g1, i0, hi0, ei0⟩ := i2 z
      generalize hL : (trL T e w n).2 = lo at *
      obtain ⟨m, rfl⟩ : ∃ m, lo = m + 1 := ⟨lo - 1, by omega⟩
      have hmm : m + 1 - 1 = m := by omega
      rw [hmm] at g1
      have hm13 : m < tf T 13 := by omega
      have hho : holdF T w m = true := by
        have := pl_hold h hw hi0 (by omega)
        rwa [ei0, hmm] at this
      have hmod : (600 * tn T 5 m + m) % 600 = m := by omega
      have hdiv : (600 * tn T 5 m + m) / 600 = tn T 5 m := by omega
      have ha : acB T w (600 * tn T 5 m + m) = true := acB_iff.mpr (by rw [hmod, hdiv]; exact ⟨hm13, rfl, hho⟩)
      have e1 : trA e (trL T e w n) = lpL T e w (600 * tn T 5 m + m + 1) := by
        show _ = (if acB T w (600 * tn T 5 m + m) = true then stE e ((600 * tn T 5 m + m) % 600) (lpL T e w (600 * tn T 5 m + m)) else lpL T e w (600 * tn T 5 m + m))
        rw [if_pos ha, hmod, ← g1]
        unfold trA stE
        rw [hL, hmm]
      obtain ⟨-, j2, j3, -, -⟩ := lpL_I h he hw (600 * tn T 5 m + m + 1)
      have e2 : trS e w (trL T e w n) = (lpL T e w (600 * tn T 5 m + m + 1), nbF T w (m + 1) (tf T 2 * tf T 3)) := by
        unfold trS
        rw [hL, if_neg z, e1, j2, j2, nbF_same (fun i => j3 1 i (by decide) (by decide)) (fun i => j3 5 i (by decide) (by decide)) (fun i => j3 6 i (by decide) (by decide))]
      rw [e2]
      obtain ⟨p1, p2⟩ := nbF_ok (w := w) (lo := m + 1) h hpl i1 (tf T 2 * tf T 3) (Nat.le_refl _)
      rw [hmm] at p1 p2
      refine ⟨?_, fun y => ?_, fun y => ?_⟩
      · show nbF T w (m + 1) (tf T 2 * tf T 3) ≤ _
        by_cases y : nbF T w (m + 1) (tf T 2 * tf T 3) = 0
        · omega
        · obtain ⟨⟨i, hi, ei⟩, -⟩ := p2 y
          rw [← ei]; exact hpl i hi
      · have y' : nbF T w (m + 1) (tf T 2 * tf T 3) ≠ 0 := y
        obtain ⟨⟨i, hi, ei⟩, q1, q⟩ := p2 y'
        refine ⟨?_, i, hi, ei⟩
        have q1' := q1.resolve_left (by omega)
        refine (lpL_skip' (by show 600 * tn T 5 m + m + 1 ≤ _; exact q1') (fun x hx1 hx2 => ?_)).symm
        rw [← Bool.not_eq_true]
        intro t
        obtain ⟨i', hi', hz', ex⟩ := act x t
        have := q i' hi' hz' (Or.inr (by omega))
        have hx2' : x < 600 * tn T 5 (nbF T w (m + 1) (tf T 2 * tf T 3) - 1) + (nbF T w (m + 1) (tf T 2 * tf T 3) - 1) := hx2
        omega
      · have y' : nbF T w (m + 1) (tf T 2 * tf T 3) = 0 := y
        have := key_lt m hm13
        refine (lpL_skip' (by omega) (fun x hx1 hx2 => ?_)).symm
        rw [← Bool.not_eq_true]
        intro t
        obtain ⟨i', hi', hz', ex⟩ := act x t
        exact p1 y' i' hi' hz' (Or.inr (by omega))
/-- it comes to its end -/
theorem trL_end {e w : Nat} (h : INV K T) (he : e < tf T 38) (hw : w < tf T 1) : (trL T e w (tf T 2 * tf T 3)).2 = 0 := by
  have ok := trL_ok h he hw
  have h600 := h.1.2.2.2.2.1
  have abs : ∀ n t, (trL T e w n).2 = 0 → (trL T e w (n + t)).2 = 0 := fun n t hz => by
    induction t with
    | zero => exact hz
    | succ t ih =>
      show (trS e w (trL T e w (n + t))).2 = 0
      unfold trS
      rw [if_pos ih]
      exact ih
  have hpl : ∀ i, i < tf T 2 * tf T 3 → plW T w i ≤ tf T 13 := fun i hi => by
    by_cases z : plW T w i = 0
    · omega
    · have := (hold_ok h hw (pl_hold h hw hi z)).1
      omega
  have inc : ∀ n, (trL T e w (n + 1)).2 ≠ 0 → 600 * tn T 5 ((trL T e w n).2 - 1) + ((trL T e w n).2 - 1) < 600 * tn T 5 ((trL T e w (n + 1)).2 - 1) + ((trL T e w (n + 1)).2 - 1) := fun n hz => by
    have hz0 : (trL T e w n).2 ≠ 0 := fun z => hz (abs n 1 z)
    have e2 : (trL T e w (n + 1)).2 = nbF T w (trL T e w n).2 (tf T 2 * tf T 3) := by
      obtain ⟨o1, o2, -⟩ := ok n
      obtain ⟨g1, -⟩ := o2 hz0
      show (trS e w (trL T e w n)).2 = _
      unfold trS
      rw [if_neg hz0]
      have e1 : trA e (trL T e w n) = stE e ((trL T e w n).2 - 1) (lpL T e w (600 * tn T 5 ((trL T e w n).2 - 1) + ((trL T e w n).2 - 1))) := by
        unfold trA stE
        rw [← g1]
      obtain ⟨i, hi, ei⟩ := (o2 hz0).2
      have hh := hold_ok h hw (pl_hold h hw hi (by omega))
      rw [ei] at hh
      have I := stE_I (lpL_I h he hw (600 * tn T 5 ((trL T e w n).2 - 1) + ((trL T e w n).2 - 1))) he hh.1 hh.2.1
      rw [← e1] at I
      obtain ⟨-, j2, j3, -, -⟩ := I
      show nbF (trA e (trL T e w n)) w (trL T e w n).2 (tf (trA e (trL T e w n)) 2 * tf (trA e (trL T e w n)) 3) = _
      rw [j2, j2]
      exact nbF_same (fun i => j3 1 i (by decide) (by decide)) (fun i => j3 5 i (by decide) (by decide)) (fun i => j3 6 i (by decide) (by decide)) _
    have q := ((nbF_ok (w := w) (lo := (trL T e w n).2) h hpl (ok n).1 (tf T 2 * tf T 3) (Nat.le_refl _)).2 (by rw [← e2]; exact hz)).2.1
    rw [← e2] at q
    exact q.resolve_left hz0
  have far : ∀ n t, (trL T e w (n + t + 1)).2 ≠ 0 → 600 * tn T 5 ((trL T e w n).2 - 1) + ((trL T e w n).2 - 1) < 600 * tn T 5 ((trL T e w (n + t + 1)).2 - 1) + ((trL T e w (n + t + 1)).2 - 1) := fun n t => by
    induction t with
    | zero => exact inc n
    | succ t ih =>
      intro hz
      have a := inc (n + t + 1) hz
      have b := ih (fun z => hz (abs _ 1 z))
      exact Nat.lt_trans b a
  rcases Decidable.em ((trL T e w (tf T 2 * tf T 3)).2 = 0) with y | y
  · exact y
  exfalso
  have nz : ∀ i, i ≤ tf T 2 * tf T 3 → (trL T e w i).2 ≠ 0 := fun i hi z => y (by
    have := abs i (tf T 2 * tf T 3 - i) z
    rwa [show i + (tf T 2 * tf T 3 - i) = tf T 2 * tf T 3 by omega] at this)
  have hx : ∀ i, ∃ x, i ≤ tf T 2 * tf T 3 → x < tf T 2 * tf T 3 ∧ plW T w x = (trL T e w i).2 := fun i => by
    by_cases hi : i ≤ tf T 2 * tf T 3
    · obtain ⟨x, a, b⟩ := ((ok i).2.1 (nz i hi)).2
      exact ⟨x, fun _ => ⟨a, b⟩⟩
    · exact ⟨0, fun z => absurd z hi⟩
  have := pigeon (tf T 2 * tf T 3) (tf T 2 * tf T 3 + 1) (fun i => Classical.choose (hx i)) (fun i hi => (Classical.choose_spec (hx i) (by omega)).1) (fun i j hi hj he' => ?_)
  · omega
  · have a := (Classical.choose_spec (hx i) (by omega)).2
    have b := (Classical.choose_spec (hx j) (by omega)).2
    have he'' : Classical.choose (hx i) = Classical.choose (hx j) := he'
    rw [he'', b] at a
    rcases Nat.lt_trichotomy i j with t | t | t
    · have := far i (j - i - 1) (by rw [show i + (j - i - 1) + 1 = j by omega]; exact nz j (by omega))
      rw [show i + (j - i - 1) + 1 = j by omega, a] at this
      omega
    · exact t
    · have := far j (i - j - 1) (by rw [show j + (i - j - 1) + 1 = i by omega]; exact nz i (by omega))
      rw [show j + (i - j - 1) + 1 = i by omega, a] at this
      omega
theorem trL_is {e w : Nat} (h : INV K T) (he : e < tf T 38) (hw : w < tf T 1) : (trL T e w (tf T 2 * tf T 3)).1 = lpL T e w 2400 := (trL_ok h he hw _).2.2 (trL_end h he hw)
end
