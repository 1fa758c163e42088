/-! ===== the class's heap: what stays, what a write makes of it ===== -/
theorem fty_lt {g j : Nat} {b : Bool} (h : (fty g)[j]? = some b) : j < 64 := by
  have hl := (List.getElem?_eq_some_iff.mp h).1
  have key : ∀ g, (fty g).length ≤ 64 := by
    intro g
    unfold fty
    split <;> decide
  exact Nat.lt_of_lt_of_le hl (key g)
/-- what a list's change leaves: b the list, t the array that is written -/
def lop (S S' : HS) (b : Nat) (t : Option Nat) : Prop := ∀ x, x ∈ zL S → x ∈ zL S' ∧ zK S' x = zK S x ∧ zN S' x = zN S x ∧ zA S' x = zA S x ∧ zJ S' x = zJ S x ∧ (t ≠ some x → zR S' x = zR S x) ∧ ∀ g, (3 ≤ g ∨ x ≠ b) → zI S' g x = zI S g x ∧ zP S' g x = zP S g x
/-- nothing that was there has changed -/
def hext (S S' : HS) : Prop := ∀ x, x ∈ zL S → x ∈ zL S' ∧ zK S' x = zK S x ∧ zN S' x = zN S x ∧ zA S' x = zA S x ∧ zJ S' x = zJ S x ∧ zR S' x = zR S x ∧ ∀ g, zI S' g x = zI S g x ∧ zP S' g x = zP S g x
theorem hext.rfl {S : HS} : hext S S := fun _ h => ⟨h, Eq.refl _, Eq.refl _, Eq.refl _, Eq.refl _, Eq.refl _, fun _ => ⟨Eq.refl _, Eq.refl _⟩⟩
theorem hext.trans {S T U : HS} (h : hext S T) (k : hext T U) : hext S U := fun x hx => by
  obtain ⟨a1, a2, a3, a4, a5, a6, a7⟩ := h x hx
  obtain ⟨b1, b2, b3, b4, b5, b6, b7⟩ := k x a1
  exact ⟨b1, b2.trans a2, b3.trans a3, b4.trans a4, b5.trans a5, b6.trans a6, fun g => ⟨(b7 g).1.trans (a7 g).1, (b7 g).2.trans (a7 g).2⟩⟩
theorem hext.lop {S S' : HS} (h : hext S S') (b : Nat) (t : Option Nat) : lop S S' b t := fun x hx => by
  obtain ⟨a1, a2, a3, a4, a5, a6, a7⟩ := h x hx
  exact ⟨a1, a2, a3, a4, a5, fun _ => a6, fun g _ => a7 g⟩
theorem hext.newO {S T : HS} (h : hext S T) {q k : Nat} (hq : q ∉ zL S) : hext S (newO T q k) := fun x hx => by
  obtain ⟨a1, a2, a3, a4, a5, a6, a7⟩ := h x hx
  have hne : x ≠ q := fun z => hq (z ▸ hx)
  refine ⟨List.mem_append_left _ a1, (va_up_ne _ _ hne).trans a2, a3, a4, a5, a6, fun g => ⟨?_, ?_⟩⟩
  · show (if x = q then 0 else zI T g x) = _
    rw [if_neg hne]; exact (a7 g).1
  · show (if x = q then none else zP T g x) = _
    rw [if_neg hne]; exact (a7 g).2
theorem hext.newA {S T : HS} (h : hext S T) {q k n : Nat} (hq : q ∉ zL S) : hext S (newA T q k n) := fun x hx => by
  obtain ⟨a1, a2, a3, a4, a5, a6, a7⟩ := h x hx
  have hne : x ≠ q := fun z => hq (z ▸ hx)
  exact ⟨List.mem_append_left _ a1, (va_up_ne _ _ hne).trans a2, (va_up_ne _ _ hne).trans a3, (va_up_ne _ _ hne).trans a4, (va_up_ne _ _ hne).trans a5, (va_up_ne _ _ hne).trans a6, a7⟩
theorem hext.setI {S T : HS} (h : hext S T) {g q : Nat} {v : Int32} (hq : q ∉ zL S) : hext S (setI T g q v) := fun x hx => by
  obtain ⟨a1, a2, a3, a4, a5, a6, a7⟩ := h x hx
  have hne : x ≠ q := fun z => hq (z ▸ hx)
  refine ⟨a1, a2, a3, a4, a5, a6, fun g' => ⟨?_, (a7 g').2⟩⟩
  show up2 (zI T) g q v g' x = _
  unfold up2
  rw [if_neg (fun z => hne z.2)]; exact (a7 g').1
theorem hext.setP {S T : HS} (h : hext S T) {g q : Nat} {v : Option Nat} (hq : q ∉ zL S) : hext S (setP T g q v) := fun x hx => by
  obtain ⟨a1, a2, a3, a4, a5, a6, a7⟩ := h x hx
  have hne : x ≠ q := fun z => hq (z ▸ hx)
  refine ⟨a1, a2, a3, a4, a5, a6, fun g' => ⟨(a7 g').1, ?_⟩⟩
  show up2 (zP T) g q v g' x = _
  unfold up2
  rw [if_neg (fun z => hne z.2)]; exact (a7 g').2
theorem hext.setA {S T : HS} (h : hext S T) {q : Nat} {f : Nat → Int32} (hq : q ∉ zL S) : hext S (setA T q f) := fun x hx => by
  obtain ⟨a1, a2, a3, a4, a5, a6, a7⟩ := h x hx
  have hne : x ≠ q := fun z => hq (z ▸ hx)
  exact ⟨a1, a2, a3, (va_up_ne _ _ hne).trans a4, a5, a6, a7⟩
theorem hext.setR {S T : HS} (h : hext S T) {q : Nat} {f : Nat → Option Nat} (hq : q ∉ zL S) : hext S (setR T q f) := fun x hx => by
  obtain ⟨a1, a2, a3, a4, a5, a6, a7⟩ := h x hx
  have hne : x ≠ q := fun z => hq (z ▸ hx)
  exact ⟨a1, a2, a3, a4, a5, (va_up_ne _ _ hne).trans a6, a7⟩
section
variable {tc : Nat → ClassId} {a : Nat → Nat → Nat} {A B : TS} {S S' : HS}
theorem RO.lop {b : Nat} {t : Option Nat} (h : RO a A S) (hop : lop S S' b t) (ht : ∀ x, t = some x → x ∈ zL S → zK S x = 23) : RO a A S' := by
  obtain ⟨h1, h2, h3, h4, h5, h6, h7⟩ := h
  have hg : ∀ {g j : Nat}, 1 ≤ g → 3 ≤ 64 * g + j := fun q => by omega
  refine ⟨fun g i hl => ?_, h2, fun g i j hl e1 e2 hj => ?_, fun g i j hl e1 e2 hj => ?_, fun g i hl e1 => ?_, fun i k hl hk => ?_, fun g i k hl e1 hk => ?_⟩
  · obtain ⟨q1, q2⟩ := h1 g i hl
    obtain ⟨r1, r2, -⟩ := hop _ q1
    exact ⟨r1, r2.trans q2⟩
  · exact ((hop _ (h1 g i hl).1).2.2.2.2.2.2 _ (Or.inl (hg e1))).1.trans (h3 g i j hl e1 e2 hj)
  · exact ((hop _ (h1 g i hl).1).2.2.2.2.2.2 _ (Or.inl (hg e1))).2.trans (h4 g i j hl e1 e2 hj)
  · exact (hop _ (h1 g i hl).1).2.2.1.trans (h5 g i hl e1)
  · rw [(hop _ (h1 20 i hl).1).2.2.2.1]
    exact h6 i k hl hk
  · obtain ⟨q1, q2⟩ := h1 g i hl
    have hne : t ≠ some (a g i) := fun z => by
      have := ht _ z q1
      rw [q2] at this
      omega
    rw [(hop _ q1).2.2.2.2.2.1 hne]
    exact h7 g i k hl e1 hk
theorem LX.ext {b t M z : Nat} (h : LX tc S b t M z) (h1 : b ∈ zL S') (h2 : zK S' b = zK S b) (h3 : zP S' 1 b = zP S 1 b) (h4 : zI S' 2 b = zI S 2 b) (h5 : t ∈ zL S → t ∈ zL S' ∧ zK S' t = zK S t ∧ zN S' t = zN S t) : LX tc S' b t M z := by
  obtain ⟨e1, e2, e3, e4, e5, e6, e7⟩ := h
  refine ⟨h1, h2.trans e2, h3.trans e3, h4.trans e4, e5, e6, ?_⟩
  rcases e7 with e7 | ⟨e7, e8, e9, e10⟩
  · exact Or.inl e7
  · obtain ⟨f1, f2, f3⟩ := h5 e8
    exact Or.inr ⟨e7, f1, f2.trans e9, f3.trans e10⟩
theorem LX.arr {b t M z : Nat} (h : LX tc S b t M z) (hM : M ≠ 0) : t ∈ zL S ∧ zK S t = 23 ∧ zN S t = M := by
  rcases h.2.2.2.2.2.2 with e | ⟨-, e8, e9, e10⟩
  · exact absurd e.1 hM
  · exact ⟨e8, e9, e10⟩
/-- things came that nobody knows of yet -/
theorem RA.ext (h : RA tc a A S) (hx : hext S S') : RA tc a A S' := by
  obtain ⟨hO, ⟨hL, hD⟩, hW⟩ := h
  refine ⟨?_, ⟨fun i hl => ?_, hD⟩, hW⟩
  · obtain ⟨h1, h2, h3, h4, h5, h6, h7⟩ := hO
    refine ⟨fun g i hl => ?_, h2, fun g i j hl e1 e2 hj => ?_, fun g i j hl e1 e2 hj => ?_, fun g i hl e1 => ?_, fun i k hl hk => ?_, fun g i k hl e1 hk => ?_⟩
    · obtain ⟨q1, q2⟩ := h1 g i hl
      obtain ⟨r1, r2, -⟩ := hx _ q1
      exact ⟨r1, r2.trans q2⟩
    · exact ((hx _ (h1 g i hl).1).2.2.2.2.2.2 _).1.trans (h3 g i j hl e1 e2 hj)
    · exact ((hx _ (h1 g i hl).1).2.2.2.2.2.2 _).2.trans (h4 g i j hl e1 e2 hj)
    · exact (hx _ (h1 g i hl).1).2.2.1.trans (h5 g i hl e1)
    · rw [(hx _ (h1 20 i hl).1).2.2.2.1]
      exact h6 i k hl hk
    · rw [(hx _ (h1 g i hl).1).2.2.2.2.2.1]
      exact h7 g i k hl e1 hk
  · obtain ⟨q1, q2⟩ := hL i hl
    have hb := hx _ (hO.1 0 i hl).1
    refine ⟨q1.ext hb.1 hb.2.1 (hb.2.2.2.2.2.2 1).2 (hb.2.2.2.2.2.2 2).1 (fun ht => ⟨(hx _ ht).1, (hx _ ht).2.1, (hx _ ht).2.2.1⟩), fun k hk => ?_⟩
    have hM : a 50 i ≠ 0 := fun z => by
      have := q1.2.2.2.2.1
      omega
    rw [(hx _ (q1.arr hM).1).2.2.2.2.2.1]
    exact q2 k hk
/-- a write of a number's field -/
theorem RA.wI (h : RA tc a A S) {g i j : Nat} {v : Int32} (hl : lv A g i) (h1 : 1 ≤ g) (h2 : g < 20) (h4 : g ≠ 4) (hj : (fty g)[j]? = some true) (ce : CE A B) (e2 : ∀ g' i' j', lv A g' i' → civ B i' g' j' = if (g' = g ∧ j' = j) ∧ i' = i then v else civ A i' g' j') : RA tc a B (setI S (64 * g + j) (a g i) v) := by
  obtain ⟨⟨k1, k2, k3, k4, k5, k6, k7⟩, ⟨kL, kD⟩, kW⟩ := h
  obtain ⟨c1, c2, c3, c4, c5, c6, c7⟩ := ce
  have hj64 := fty_lt hj
  refine ⟨⟨fun g' i' hl' => k1 g' i' ((c1 g' i').mp hl'), fun g' i' j' q q1 q2 => k2 g' i' j' q ((c1 _ _).mp q1) ((c1 _ _).mp q2), fun g' i' j' hl' e1 e3 hj' => ?_, fun g' i' j' hl' e1 e3 hj' => ?_, fun g' i' hl' e1 => ?_, fun i' k hl' hk => ?_, fun g' i' k hl' e1 hk => ?_⟩, ⟨fun i' hl' => ?_, fun i' j' q1 q2 => kD i' j' ((c1 _ _).mp q1) ((c1 _ _).mp q2)⟩, c7 kW⟩
  · have hl2 := (c1 g' i').mp hl'
    show up2 (zI S) (64 * g + j) (a g i) v (64 * g' + j') (a g' i') = _
    rw [e2 _ _ _ hl2]
    unfold up2
    have hj64' := fty_lt hj'
    by_cases q : (g' = g ∧ j' = j) ∧ i' = i
    · obtain ⟨⟨rfl, rfl⟩, rfl⟩ := q
      rw [if_pos ⟨rfl, rfl⟩, if_pos ⟨⟨rfl, rfl⟩, rfl⟩]
    · rw [if_neg q, if_neg (fun z => ?_)]
      · exact k3 g' i' j' hl2 e1 e3 hj'
      · have hg : g' = g := by omega
        subst hg
        exact q ⟨⟨rfl, by omega⟩, k2 g' i' i h4 hl2 hl z.2⟩
  · rw [c2]; exact k4 g' i' j' ((c1 g' i').mp hl') e1 e3 hj'
  · rw [c3]; exact k5 g' i' ((c1 g' i').mp hl') e1
  · rw [c4]; rw [c3] at hk; exact k6 i' k ((c1 _ _).mp hl') hk
  · rw [c5]; rw [c3] at hk; exact k7 g' i' k ((c1 _ _).mp hl') e1 hk
  · obtain ⟨q1, q2⟩ := kL i' ((c1 0 i').mp hl')
    rw [c6]
    refine ⟨q1.ext q1.1 rfl rfl ?_ (fun ht => ⟨ht, rfl, rfl⟩), q2⟩
    show up2 (zI S) (64 * g + j) (a g i) v 2 (a 0 i') = _
    unfold up2
    rw [if_neg (fun z => by omega)]
/-- a write of a reference's field -/
theorem RA.wP (h : RA tc a A S) {g i j : Nat} {v : Option Nat} (hl : lv A g i) (h1 : 1 ≤ g) (h2 : g < 20) (h4 : g ≠ 4) (hj : (fty g)[j]? = some false) (c1 : ∀ g i, lv B g i ↔ lv A g i) (c2 : ∀ i g j, civ B i g j = civ A i g j) (c3 : ∀ g i, cln B g i = cln A g i) (c4 : ∀ i k, cav B i k = cav A i k) (c5 : ∀ a g i k, crv a B g i k = crv a A g i k) (c6 : ∀ i, lsz B i = lsz A i) (hW : WF B) (e2 : ∀ g' i' j', cpv a B i' g' j' = if (g' = g ∧ j' = j) ∧ i' = i then v else cpv a A i' g' j') : RA tc a B (setP S (64 * g + j) (a g i) v) := by
  obtain ⟨⟨k1, k2, k3, k4, k5, k6, k7⟩, ⟨kL, kD⟩, kW⟩ := h
  have hj64 := fty_lt hj
  refine ⟨⟨fun g' i' hl' => k1 g' i' ((c1 g' i').mp hl'), fun g' i' j' q q1 q2 => k2 g' i' j' q ((c1 _ _).mp q1) ((c1 _ _).mp q2), fun g' i' j' hl' e1 e3 hj' => ?_, fun g' i' j' hl' e1 e3 hj' => ?_, fun g' i' hl' e1 => ?_, fun i' k hl' hk => ?_, fun g' i' k hl' e1 hk => ?_⟩, ⟨fun i' hl' => ?_, fun i' j' q1 q2 => kD i' j' ((c1 _ _).mp q1) ((c1 _ _).mp q2)⟩, hW⟩
  · rw [c2]; exact k3 g' i' j' ((c1 g' i').mp hl') e1 e3 hj'
  · have hl2 := (c1 g' i').mp hl'
    show up2 (zP S) (64 * g + j) (a g i) v (64 * g' + j') (a g' i') = _
    rw [e2]
    unfold up2
    have hj64' := fty_lt hj'
    by_cases q : (g' = g ∧ j' = j) ∧ i' = i
    · obtain ⟨⟨rfl, rfl⟩, rfl⟩ := q
      rw [if_pos ⟨rfl, rfl⟩, if_pos ⟨⟨rfl, rfl⟩, rfl⟩]
    · rw [if_neg q, if_neg (fun z => ?_)]
      · exact k4 g' i' j' hl2 e1 e3 hj'
      · have hg : g' = g := by omega
        subst hg
        exact q ⟨⟨rfl, by omega⟩, k2 g' i' i h4 hl2 hl z.2⟩
  · rw [c3]; exact k5 g' i' ((c1 g' i').mp hl') e1
  · rw [c4]; rw [c3] at hk; exact k6 i' k ((c1 _ _).mp hl') hk
  · rw [c5]; rw [c3] at hk; exact k7 g' i' k ((c1 _ _).mp hl') e1 hk
  · obtain ⟨q1, q2⟩ := kL i' ((c1 0 i').mp hl')
    rw [c6]
    refine ⟨q1.ext q1.1 rfl ?_ rfl (fun ht => ⟨ht, rfl, rfl⟩), q2⟩
    show up2 (zP S) (64 * g + j) (a g i) v 1 (a 0 i') = _
    unfold up2
    rw [if_neg (fun z => by omega)]
/-- a write into a row of ints -/
theorem RA.wA (h : RA tc a A S) {i k : Nat} {v : Int32} (hl : lv A 20 i) (c1 : ∀ g i, lv B g i ↔ lv A g i) (c2 : ∀ i g j, civ B i g j = civ A i g j) (c3 : ∀ g i, cln B g i = cln A g i) (c4 : ∀ a i g j, cpv a B i g j = cpv a A i g j) (c5 : ∀ a g i k, crv a B g i k = crv a A g i k) (c6 : ∀ i, lsz B i = lsz A i) (hW : WF B) (e2 : ∀ i' k', k' < cln A 20 i' → cav B i' k' = if i' = i ∧ k' = k then v else cav A i' k') : RA tc a B (setA S (a 20 i) (upd (zA S (a 20 i)) k v)) := by
  obtain ⟨⟨k1, k2, k3, k4, k5, k6, k7⟩, ⟨kL, kD⟩, kW⟩ := h
  refine ⟨⟨fun g' i' hl' => k1 g' i' ((c1 g' i').mp hl'), fun g' i' j' q q1 q2 => k2 g' i' j' q ((c1 _ _).mp q1) ((c1 _ _).mp q2), fun g' i' j' hl' e1 e3 hj' => ?_, fun g' i' j' hl' e1 e3 hj' => ?_, fun g' i' hl' e1 => ?_, fun i' k' hl' hk => ?_, fun g' i' k hl' e1 hk => ?_⟩, ⟨fun i' hl' => ?_, fun i' j' q1 q2 => kD i' j' ((c1 _ _).mp q1) ((c1 _ _).mp q2)⟩, hW⟩
  · rw [c2]; exact k3 g' i' j' ((c1 g' i').mp hl') e1 e3 hj'
  · rw [c4]; exact k4 g' i' j' ((c1 g' i').mp hl') e1 e3 hj'
  · rw [c3]; exact k5 g' i' ((c1 g' i').mp hl') e1
  · have hl2 := (c1 20 i').mp hl'
    rw [c3] at hk
    rw [e2 i' k' hk]
    show va_up (zA S) (a 20 i) (upd (zA S (a 20 i)) k v) (a 20 i') k' = _
    by_cases q : i' = i
    · subst q
      rw [va_up_self]
      unfold upd
      by_cases y : k' = k
      · subst y
        rw [if_pos rfl, if_pos ⟨rfl, rfl⟩]
      · rw [if_neg y, if_neg (fun z => y z.2)]
        exact k6 i' k' hl2 hk
    · rw [va_up_ne _ _ (fun z => q (k2 20 i' i (by decide) hl2 hl z)), if_neg (fun z => q z.1)]
      exact k6 i' k' hl2 hk
  · rw [c5]; rw [c3] at hk; exact k7 g' i' k ((c1 _ _).mp hl') e1 hk
  · obtain ⟨q1, q2⟩ := kL i' ((c1 0 i').mp hl')
    rw [c6]
    exact ⟨q1.ext q1.1 rfl rfl rfl (fun ht => ⟨ht, rfl, rfl⟩), q2⟩
/-- a write into a row of references -/
theorem RA.wR (h : RA tc a A S) {g i k : Nat} {v : Option Nat} (hl : lv A g i) (hg : 24 ≤ g) (c1 : ∀ g i, lv B g i ↔ lv A g i) (c2 : ∀ i g j, civ B i g j = civ A i g j) (c3 : ∀ g i, cln B g i = cln A g i) (c4 : ∀ a i g j, cpv a B i g j = cpv a A i g j) (c5 : ∀ i k, cav B i k = cav A i k) (c6 : ∀ i, lsz B i = lsz A i) (hW : WF B) (e2 : ∀ g' i' k', lv A g' i' → 24 ≤ g' → k' < cln A g' i' → crv a B g' i' k' = if (g' = g ∧ i' = i) ∧ k' = k then v else crv a A g' i' k') : RA tc a B (setR S (a g i) (va_up (zR S (a g i)) k v)) := by
  obtain ⟨⟨k1, k2, k3, k4, k5, k6, k7⟩, ⟨kL, kD⟩, kW⟩ := h
  refine ⟨⟨fun g' i' hl' => k1 g' i' ((c1 g' i').mp hl'), fun g' i' j' q q1 q2 => k2 g' i' j' q ((c1 _ _).mp q1) ((c1 _ _).mp q2), fun g' i' j' hl' e1 e3 hj' => ?_, fun g' i' j' hl' e1 e3 hj' => ?_, fun g' i' hl' e1 => ?_, fun i' k' hl' hk => ?_, fun g' i' k' hl' e1 hk => ?_⟩, ⟨fun i' hl' => ?_, fun i' j' q1 q2 => kD i' j' ((c1 _ _).mp q1) ((c1 _ _).mp q2)⟩, hW⟩
  · rw [c2]; exact k3 g' i' j' ((c1 g' i').mp hl') e1 e3 hj'
  · rw [c4]; exact k4 g' i' j' ((c1 g' i').mp hl') e1 e3 hj'
  · rw [c3]; exact k5 g' i' ((c1 g' i').mp hl') e1
  · rw [c5]; rw [c3] at hk; exact k6 i' k' ((c1 _ _).mp hl') hk
  · have hl2 := (c1 g' i').mp hl'
    rw [c3] at hk
    rw [e2 g' i' k' hl2 e1 hk]
    show va_up (zR S) (a g i) (va_up (zR S (a g i)) k v) (a g' i') k' = _
    by_cases q : g' = g ∧ i' = i
    · obtain ⟨rfl, rfl⟩ := q
      rw [va_up_self]
      by_cases y : k' = k
      · subst y
        rw [va_up_self, if_pos ⟨⟨rfl, rfl⟩, rfl⟩]
      · rw [va_up_ne _ _ y, if_neg (fun z => y z.2)]
        exact k7 g' i' k' hl2 e1 hk
    · have hne : a g' i' ≠ a g i := fun z => by
        have hk1 := (k1 g' i' hl2).2
        have hk2 := (k1 g i hl).2
        rw [z, hk2] at hk1
        subst hk1
        exact q ⟨rfl, k2 _ _ _ (by omega) hl2 hl z⟩
      rw [va_up_ne _ _ hne, if_neg (fun z => q z.1)]
      exact k7 g' i' k' hl2 e1 hk
  · obtain ⟨q1, q2⟩ := kL i' ((c1 0 i').mp hl')
    rw [c6]
    refine ⟨q1.ext q1.1 rfl rfl rfl (fun ht => ⟨ht, rfl, rfl⟩), fun k' hk' => ?_⟩
    have hM : a 50 i' ≠ 0 := fun z => by
      have := q1.2.2.2.2.1
      omega
    have hne : a 23 i' ≠ a g i := fun z => by
      have hk1 := (q1.arr hM).2.1
      rw [z, (k1 g i hl).2] at hk1
      omega
    show va_up (zR S) (a g i) _ (a 23 i') k' = _
    rw [va_up_ne _ _ hne]
    exact q2 k' hk'
end
