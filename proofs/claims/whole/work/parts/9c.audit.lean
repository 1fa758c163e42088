/-! ===== the audit, what calls show: both sides ===== -/
section
variable {K : Nat} {A : TS}
theorem plF_uni {e k n : Nat} (hi : ∀ i j, i < n → j < n → tn A 22 (600 * e + i) = tn A 22 (600 * e + j) → i = j) (hk : k < n) : plF A e (tn A 22 (600 * e + k)) n = k + 1 := by
  induction n with
  | zero => omega
  | succ n ih =>
    unfold plF
    by_cases y : k = n
    · rw [y, if_pos rfl]
    · rw [if_neg (fun z => y (hi n k (by omega) (by omega) z).symm)]
      exact ih (fun i j a b => hi i j (by omega) (by omega)) (by omega)
theorem placeF_uni {e k : Nat} (h : LogOK A e) (hk : k < tn A 26 e) : placeF A e (tn A 22 (600 * e + k)) = k + 1 := plF_uni h.2.2 hk
theorem onL_t {e : Nat} (h : LogOK A e) : ∀ k, k ≤ tn A 26 e → onL A e k = true
  | 0, _ => rfl
  | k + 1, hk => by
    unfold onL
    rw [onL_t h k (by omega), placeF_uni h (by omega), decide_eq_true rfl]
    rfl
theorem auL_iff {e : Nat} {x : Bool} : ∀ n, auL A e x n = true ↔ x = true ∧ ∀ g, g < n → tn A 7 g = 2 → tn A 11 g ≠ 0 → seenF A e g = true
  | 0 => ⟨fun z => ⟨z, fun g hg => absurd hg (Nat.not_lt_zero _)⟩, fun z => z.1⟩
  | n + 1 => by
    unfold auL
    by_cases y : auL A e x n = true
    · rw [if_pos y]
      have q := (auL_iff n).mp y
      by_cases z : tn A 7 n = 2 ∧ tn A 11 n ≠ 0
      · rw [if_pos z]
        exact ⟨fun t => ⟨q.1, fun g hg a b => by
          by_cases w : g = n
          · rw [w]; exact t
          · exact q.2 g (by omega) a b⟩, fun t => t.2 n (by omega) z.1 z.2⟩
      · rw [if_neg z]
        exact ⟨fun _ => ⟨q.1, fun g hg a b => by
          by_cases w : g = n
          · rw [w] at a b; exact absurd ⟨a, b⟩ z
          · exact q.2 g (by omega) a b⟩, fun _ => rfl⟩
    · rw [if_neg y]
      exact ⟨fun t => (by cases t), fun t => absurd ((auL_iff n).mpr ⟨t.1, fun g hg => t.2 g (by omega)⟩) y⟩
theorem paC_iff {e : Nat} : ∀ n, paC A e n = true ↔ ∀ i, i < n → tn A 11 i ≠ 0 → (if tn A 7 i = 2 then fiF A e i else soF A e i) = true
  | 0 => ⟨fun _ i hi => absurd hi (Nat.not_lt_zero _), fun _ => rfl⟩
  | n + 1 => by
    unfold paC
    rw [Bool.and_eq_true, paC_iff n]
    have h1 : (!(decide (tn A 11 n ≠ 0) && !(if tn A 7 n = 2 then fiF A e n else soF A e n))) = true ↔ (tn A 11 n ≠ 0 → (if tn A 7 n = 2 then fiF A e n else soF A e n) = true) := by
      by_cases z : tn A 11 n ≠ 0
      · rw [decide_eq_true z]
        simp [z]
      · rw [decide_eq_false z]
        exact ⟨fun _ t => absurd t z, fun _ => rfl⟩
    rw [h1]
    exact ⟨fun t i hi a => by
      by_cases w : i = n
      · rw [w] at a ⊢; exact t.2 a
      · exact t.1 i (by omega) a, fun t => ⟨fun i hi => t i (by omega), t n (by omega)⟩⟩
theorem ibL_iff {e a : Nat} {x : Bool} : ∀ n, ibL A e a x n = true ↔ x = true ∧ ∀ b, b < n → tn A 7 b ≠ 2 → tn A 8 b = tn A 8 a → tn A 11 a ≤ tn A 10 b → (placeF A e b = 0 ∨ placeF A e a < placeF A e b)
  | 0 => ⟨fun z => ⟨z, fun g hg => absurd hg (Nat.not_lt_zero _)⟩, fun z => z.1⟩
  | n + 1 => by
    unfold ibL ibS
    by_cases y : ibL A e a x n = true
    · rw [if_pos y]
      have q := (ibL_iff n).mp y
      by_cases z : tn A 7 n ≠ 2 ∧ tn A 8 n = tn A 8 a ∧ tn A 11 a ≤ tn A 10 n
      · rw [if_pos z, decide_eq_true_eq]
        exact ⟨fun t => ⟨q.1, fun g hg a1 a2 a3 => by
          by_cases w : g = n
          · rw [w]; exact t
          · exact q.2 g (by omega) a1 a2 a3⟩, fun t => t.2 n (by omega) z.1 z.2.1 z.2.2⟩
      · rw [if_neg z]
        exact ⟨fun _ => ⟨q.1, fun g hg a1 a2 a3 => by
          by_cases w : g = n
          · rw [w] at a1 a2 a3; exact absurd ⟨a1, a2, a3⟩ z
          · exact q.2 g (by omega) a1 a2 a3⟩, fun _ => rfl⟩
    · rw [if_neg y]
      exact ⟨fun t => (by cases t), fun t => absurd ((ibL_iff n).mpr ⟨t.1, fun g hg => t.2 g (by omega)⟩) y⟩
theorem ioL_iff {e : Nat} : ∀ n, ioL A e n = true ↔ ∀ a, a < n → tn A 7 a ≠ 2 → tn A 11 a ≠ 0 → ioX A e a = true ∧ ∀ b, b < tf A 13 → tn A 7 b ≠ 2 → tn A 8 b = tn A 8 a → tn A 11 a ≤ tn A 10 b → (placeF A e b = 0 ∨ placeF A e a < placeF A e b)
  | 0 => ⟨fun _ i hi => absurd hi (Nat.not_lt_zero _), fun _ => rfl⟩
  | n + 1 => by
    unfold ioL
    by_cases z : tn A 7 n ≠ 2 ∧ tn A 11 n ≠ 0
    · rw [if_pos z, ibL_iff, Bool.and_eq_true, ioL_iff n]
      exact ⟨fun t a ha a1 a2 => by
        by_cases w : a = n
        · rw [w]; exact ⟨t.1.2, t.2⟩
        · exact t.1.1 a (by omega) a1 a2, fun t => ⟨⟨fun a ha => t a (by omega), (t n (by omega) z.1 z.2).1⟩, (t n (by omega) z.1 z.2).2⟩⟩
    · rw [if_neg z, ioL_iff n]
      exact ⟨fun t a ha a1 a2 => by
        by_cases w : a = n
        · rw [w] at a1 a2; exact absurd ⟨a1, a2⟩ z
        · exact t a (by omega) a1 a2, fun t a ha => t a (by omega)⟩
theorem ijC_iff {e i : Nat} : ∀ n, ijC A e i n = true ↔ ∀ j, j < n → i < j → tn A 8 (lgO A e j) = tn A 8 (lgO A e i) → dbF A (lgO A e j) (lgO A e i) = false
  | 0 => ⟨fun _ i hi => absurd hi (Nat.not_lt_zero _), fun _ => rfl⟩
  | n + 1 => by
    unfold ijC
    rw [Bool.and_eq_true, ijC_iff n]
    have h1 : (!(decide (i < n) && (decide (tn A 8 (lgO A e n) = tn A 8 (lgO A e i)) && dbF A (lgO A e n) (lgO A e i)))) = true ↔ (i < n → tn A 8 (lgO A e n) = tn A 8 (lgO A e i) → dbF A (lgO A e n) (lgO A e i) = false) := by
      by_cases y : i < n
      · by_cases z : tn A 8 (lgO A e n) = tn A 8 (lgO A e i)
        · rw [decide_eq_true y, decide_eq_true z]
          simp [y, z]
        · rw [decide_eq_false z]
          simp [z]
      · rw [decide_eq_false y]
        simp [y]
    rw [h1]
    exact ⟨fun t j hj => by
      by_cases w : j = n
      · rw [w]; exact t.2
      · exact t.1 j (by omega), fun t => ⟨fun j hj => t j (by omega), t n (by omega)⟩⟩
theorem ioC_iff {e : Nat} : ∀ n, ioC A e n = true ↔ ∀ i, i < n → ∀ j, j < tn A 26 e → i < j → tn A 8 (lgO A e j) = tn A 8 (lgO A e i) → dbF A (lgO A e j) (lgO A e i) = false
  | 0 => ⟨fun _ i hi => absurd hi (Nat.not_lt_zero _), fun _ => rfl⟩
  | n + 1 => by
    unfold ioC
    rw [Bool.and_eq_true, ioC_iff n, ijC_iff]
    exact ⟨fun t i hi => by
      by_cases w : i = n
      · rw [w]; exact t.2
      · exact t.1 i (by omega), fun t => ⟨fun i hi => t i (by omega), t n (by omega)⟩⟩
theorem stB_iff {e op : Nat} : ∀ n, stB A e op n = true ↔ ∀ k, k < n → lgO A e k = op → tr A 23 (600 * e + k) = tr A 12 op
  | 0 => ⟨fun _ i hi => absurd hi (Nat.not_lt_zero _), fun _ => rfl⟩
  | n + 1 => by
    unfold stB
    rw [Bool.and_eq_true, stB_iff n, Bool.or_eq_true, Bool.not_eq_true', decide_eq_false_iff_not, decide_eq_true_eq]
    exact ⟨fun t k hk e1 => by
      by_cases w : k = n
      · rw [w] at e1 ⊢; exact t.2.resolve_left (fun z => z e1)
      · exact t.1 k (by omega) e1, fun t => ⟨fun k hk => t k (by omega), by
      by_cases w : lgO A e n = op
      · exact Or.inr (t n (by omega) w)
      · exact Or.inl w⟩⟩
theorem stN_0 {e op : Nat} : ∀ n, (∀ k, k < n → lgO A e k ≠ op) → stN A e op n = 0
  | 0, _ => rfl
  | n + 1, h => by
    unfold stN
    rw [if_neg (h n (by omega)), stN_0 n (fun k hk => h k (by omega))]
theorem stN_1 {e op k0 : Nat} (hk : lgO A e k0 = op) : ∀ n, (∀ k, k < n → lgO A e k = op → k = k0) → stN A e op n = if k0 < n then 1 else 0
  | 0, _ => rfl
  | n + 1, h => by
    unfold stN
    have ih := stN_1 hk n (fun k a b => h k (by omega) b)
    by_cases y : lgO A e n = op
    · have := h n (by omega) y
      rw [if_pos y, ih, this, if_neg (by omega), if_pos (by omega)]
    · have hne : n ≠ k0 := fun z => y (z ▸ hk)
      rw [if_neg y, ih]
      by_cases z : k0 < n
      · rw [if_pos z, if_pos (by omega)]
      · rw [if_neg z, if_neg (by omega)]
theorem so_io {e op : Nat} (h : LogOK A e) : soF A e op = ioX A e op := by
  unfold soF ioX
  by_cases y : placeF A e op = 0
  · have hn := (plF_zero A e op _).mp y
    rw [stN_0 _ (fun k hk => hn k hk), decide_eq_false (show ¬ (placeF A e op ≠ 0 ∧ tr A 23 (600 * e + (placeF A e op - 1)) = tr A 12 op) from fun z => z.1 y), decide_eq_false (show ¬ (0 : Nat) = 1 by decide), Bool.and_false]
  · have hp := placeF_at y
    have hl := placeF_le A e op
    have u : ∀ k, k < tn A 26 e → lgO A e k = op → k = placeF A e op - 1 := fun k hk e1 => h.2.2 k _ hk (by omega) (by rw [hp]; exact e1)
    rw [stN_1 (k0 := placeF A e op - 1) hp _ u, if_pos (by omega), decide_eq_true rfl, Bool.and_true, Bool.eq_iff_iff, stB_iff, decide_eq_true_eq]
    exact ⟨fun t => ⟨y, t _ (by omega) hp⟩, fun t k hk e1 => by rw [u k hk e1]; exact t.2⟩
theorem frL_cs {e g : Nat} : ∀ n, (∀ k, k < n → frL A e g n ≤ k → ¬ (tn A 8 (tn A 22 (600 * e + k)) = tn A 8 g ∧ tn A 11 (tn A 22 (600 * e + k)) ≠ 0 ∧ tn A 11 (tn A 22 (600 * e + k)) ≤ tn A 10 g)) ∧ (frL A e g n ≠ 0 → (tn A 8 (tn A 22 (600 * e + (frL A e g n - 1))) = tn A 8 g ∧ tn A 11 (tn A 22 (600 * e + (frL A e g n - 1))) ≠ 0 ∧ tn A 11 (tn A 22 (600 * e + (frL A e g n - 1))) ≤ tn A 10 g))
  | 0 => ⟨fun k hk => absurd hk (Nat.not_lt_zero _), fun z => absurd rfl z⟩
  | n + 1 => by
    obtain ⟨p1, p2⟩ := frL_cs (e := e) (g := g) n
    unfold frL
    split
    · rename_i y
      exact ⟨fun k hk hl => by omega, fun _ => by rw [show n + 1 - 1 = n by omega]; exact y⟩
    · rename_i y
      refine ⟨fun k hk hl => ?_, p2⟩
      by_cases w : k = n
      · rw [w]; exact y
      · exact p1 k (by omega) hl
theorem ftL_is {e g n : Nat} : ∀ j, j ≤ n → ftL A e g n j = if n - j < frL A e g n then frL A e g n else 0
  | 0, _ => by
    have := frL_le A e g n
    rw [if_neg (by omega)]
    rfl
  | j + 1, hj => by
    have ih := ftL_is (e := e) (g := g) (n := n) j (by omega)
    have hle := frL_le A e g n
    obtain ⟨c1, c2⟩ := frL_cs (A := A) (e := e) (g := g) n
    have hdb : (tn A 8 (lgO A e (n - j - 1)) = tn A 8 g ∧ dbF A (lgO A e (n - j - 1)) g = true) ↔ (tn A 8 (tn A 22 (600 * e + (n - j - 1))) = tn A 8 g ∧ tn A 11 (tn A 22 (600 * e + (n - j - 1))) ≠ 0 ∧ tn A 11 (tn A 22 (600 * e + (n - j - 1))) ≤ tn A 10 g) := by
      unfold dbF lgO
      rw [decide_eq_true_eq]
    unfold ftL
    rw [ih]
    by_cases y : tn A 8 (lgO A e (n - j - 1)) = tn A 8 g ∧ dbF A (lgO A e (n - j - 1)) g = true
    · rw [if_pos y]
      have hge : n - j ≤ frL A e g n := by
        rcases Nat.lt_or_ge (n - j - 1) (frL A e g n) with z | z
        · omega
        · exact absurd (hdb.mp y) (c1 _ (by omega) z)
      by_cases z : n - j < frL A e g n
      · rw [if_pos z, if_neg (by omega), if_pos (by omega)]
      · rw [if_neg z, if_pos (by omega), if_pos (by omega)]
        omega
    · rw [if_neg y]
      by_cases z : n - j < frL A e g n
      · rw [if_pos z, if_pos (by omega)]
      · rw [if_neg z]
        by_cases w : n - (j + 1) < frL A e g n
        · exfalso
          refine y (hdb.mpr ?_)
          have := c2 (by omega)
          rw [show frL A e g n - 1 = n - j - 1 by omega] at this
          exact this
        · rw [if_neg w]
theorem toL_cs {e g : Nat} : ∀ n, n ≤ tn A 26 e → (∀ k, k < n → k < toL A e g n → ¬ (tn A 8 (tn A 22 (600 * e + k)) = tn A 8 g ∧ tn A 11 g ≤ tn A 10 (tn A 22 (600 * e + k)))) ∧ (toL A e g n = tn A 26 e ∨ (toL A e g n < n ∧ tn A 8 (tn A 22 (600 * e + toL A e g n)) = tn A 8 g ∧ tn A 11 g ≤ tn A 10 (tn A 22 (600 * e + toL A e g n))))
  | 0, _ => ⟨fun k hk => absurd hk (Nat.not_lt_zero _), Or.inl rfl⟩
  | n + 1, hn => by
    obtain ⟨p1, p2⟩ := toL_cs (e := e) (g := g) n (by omega)
    unfold toL
    split
    · rename_i y
      exact ⟨fun k hk hl => p1 k (by omega) (by omega), Or.inr ⟨by omega, y.1, y.2.1⟩⟩
    · rename_i y
      refine ⟨fun k hk hl t => ?_, p2.elim Or.inl (fun z => Or.inr ⟨by omega, z.2⟩)⟩
      by_cases w : k = n
      · rw [w] at t hl
        exact y ⟨t.1, t.2, hl⟩
      · exact p1 k (by omega) hl t
theorem ftM_cs {e g n : Nat} (hd : tn A 11 g ≠ 0) : ∀ j, j ≤ n → (∀ k, n - j ≤ k → k < n → k < ftM A e g n j → ¬ (tn A 8 (tn A 22 (600 * e + k)) = tn A 8 g ∧ tn A 11 g ≤ tn A 10 (tn A 22 (600 * e + k)))) ∧ (ftM A e g n j = n ∨ (n - j ≤ ftM A e g n j ∧ ftM A e g n j < n ∧ tn A 8 (tn A 22 (600 * e + ftM A e g n j)) = tn A 8 g ∧ tn A 11 g ≤ tn A 10 (tn A 22 (600 * e + ftM A e g n j))))
  | 0, _ => ⟨fun k h1 h2 => by omega, Or.inl rfl⟩
  | j + 1, hj => by
    obtain ⟨p1, p2⟩ := ftM_cs (e := e) (n := n) hd j (by omega)
    have hdb : (tn A 8 (lgO A e (n - j - 1)) = tn A 8 g ∧ dbF A g (lgO A e (n - j - 1)) = true) ↔ (tn A 8 (tn A 22 (600 * e + (n - j - 1))) = tn A 8 g ∧ tn A 11 g ≤ tn A 10 (tn A 22 (600 * e + (n - j - 1)))) := by
      unfold dbF lgO
      rw [decide_eq_true_eq]
      exact ⟨fun z => ⟨z.1, z.2.2⟩, fun z => ⟨z.1, hd, z.2⟩⟩
    unfold ftM
    split
    · rename_i y
      exact ⟨fun k h1 h2 h3 => by omega, Or.inr ⟨by omega, by omega, hdb.mp y⟩⟩
    · rename_i y
      refine ⟨fun k h1 h2 h3 t => ?_, p2.elim Or.inl (fun z => Or.inr ⟨by omega, z.2⟩)⟩
      by_cases w : k = n - j - 1
      · rw [w] at t
        exact y (hdb.mpr t)
      · exact p1 k (by omega) h2 h3 t
theorem ftM_is {e g : Nat} (hd : tn A 11 g ≠ 0) : ftM A e g (tn A 26 e) (tn A 26 e) = toL A e g (tn A 26 e) := by
  obtain ⟨a1, a2⟩ := toL_cs (A := A) (e := e) (g := g) (tn A 26 e) (Nat.le_refl _)
  obtain ⟨b1, b2⟩ := ftM_cs (A := A) (e := e) (n := tn A 26 e) hd (tn A 26 e) (Nat.le_refl _)
  have hle := toL_le A e g (tn A 26 e)
  rcases Nat.lt_trichotomy (ftM A e g (tn A 26 e) (tn A 26 e)) (toL A e g (tn A 26 e)) with z | z | z
  · rcases b2 with y | ⟨y1, y2, y3⟩
    · omega
    · exact absurd y3 (a1 _ y2 z)
  · exact z
  · rcases a2 with y | ⟨y1, y3⟩
    · rcases b2 with w | ⟨w1, w2, w3⟩ <;> omega
    · exact absurd y3 (b1 _ (by omega) y1 z)
theorem seC_iff {e x lo : Nat} : ∀ n, seC A e x lo n = true ↔ ∃ j, j < n ∧ lo ≤ j ∧ vaF A e (tn A 8 x) j = tr A 12 x
  | 0 => ⟨fun z => (by cases z), fun ⟨j, hj, _⟩ => absurd hj (Nat.not_lt_zero _)⟩
  | n + 1 => by
    unfold seC
    rw [Bool.or_eq_true, seC_iff n, Bool.and_eq_true, decide_eq_true_eq, decide_eq_true_eq]
    constructor
    · rintro (⟨j, a, b⟩ | b)
      · exact ⟨j, by omega, b⟩
      · exact ⟨n, by omega, b⟩
    · rintro ⟨j, a, b⟩
      by_cases y : j = n
      · exact Or.inr (y ▸ b)
      · exact Or.inl ⟨j, by omega, b⟩
theorem seL_iff {e x f : Nat} : ∀ n, seL A e x f n = true ↔ ∃ j, j < n ∧ vaF A e (tn A 8 x) (f + j) = tr A 12 x
  | 0 => ⟨fun z => (by cases z), fun ⟨j, hj, _⟩ => absurd hj (Nat.not_lt_zero _)⟩
  | n + 1 => by
    unfold seL
    rw [Bool.or_eq_true, seL_iff n, decide_eq_true_eq]
    constructor
    · rintro (⟨j, a, b⟩ | b)
      · exact ⟨j, by omega, b⟩
      · exact ⟨n, by omega, b⟩
    · rintro ⟨j, a, b⟩
      by_cases y : j = n
      · exact Or.inr (y ▸ b)
      · exact Or.inl ⟨j, by omega, b⟩
theorem fi_seen {e g : Nat} (hd : tn A 11 g ≠ 0) : fiF A e g = seenF A e g := by
  have hle := frL_le A e g (tn A 26 e)
  have hl : ftL A e g (tn A 26 e) (tn A 26 e) = frL A e g (tn A 26 e) := by
    rw [ftL_is _ (Nat.le_refl _)]
    by_cases z : tn A 26 e - tn A 26 e < frL A e g (tn A 26 e)
    · rw [if_pos z]
    · rw [if_neg z]
      omega
  unfold fiF seenF
  rw [hl, ftM_is hd, Bool.eq_iff_iff, seC_iff, seL_iff]
  constructor
  · rintro ⟨j, a, b, c⟩
    exact ⟨j - frL A e g (tn A 26 e), by omega, by rw [show frL A e g (tn A 26 e) + (j - frL A e g (tn A 26 e)) = j by omega]; exact c⟩
  · rintro ⟨j, a, c⟩
    exact ⟨frL A e g (tn A 26 e) + j, by omega, by omega, c⟩
/-- the audit, both sides -/
theorem audit_ok (h : INV K A) (hm : iMom A) : nI (audF A) = audC A := by
  have e5 : tf A 5 = tf A 38 := h.1.1
  have e6 : tf A 6 = tf A 13 := h.1.2.1
  have e1 := h.1.2.2.1
  unfold audF audC
  rw [e5, e6]
  obtain ⟨e, he⟩ : ∃ e, tf A 38 - 1 = e := ⟨_, rfl⟩
  rw [he]
  have hL := (h.2.2.2.2.1.2 e (by omega))
  have hlog := hL.1
  by_cases hd : tb A 30 e = false
  · rw [if_pos hd, if_pos hd]
  rw [if_neg hd, if_neg hd]
  have key : auL A e (onL A e (tn A 26 e) && ioL A e (tf A 13)) (tf A 13) = (ioC A e (tn A 26 e) && paC A e (tf A 13)) := by
    rw [Bool.eq_iff_iff, auL_iff, onL_t hlog _ (Nat.le_refl _), Bool.true_and, ioL_iff, Bool.and_eq_true, ioC_iff, paC_iff]
    constructor
    · rintro ⟨a, b⟩
      refine ⟨fun i hi j hj hij hk => ?_, fun i hi hdn => ?_⟩
      · rw [← Bool.not_eq_true]
        intro z
        have z' := of_decide_eq_true z
        have q := (a (lgO A e j) (hlog.2.1 j hj) (hL.2.2 j hj).1 z'.1).2 (lgO A e i) (hlog.2.1 i hi) (hL.2.2 i hi).1 hk.symm z'.2
        have pi : placeF A e (lgO A e i) = i + 1 := placeF_uni hlog hi
        have pj : placeF A e (lgO A e j) = j + 1 := placeF_uni hlog hj
        omega
      · by_cases y : tn A 7 i = 2
        · rw [if_pos y, fi_seen hdn]
          exact b i hi y hdn
        · rw [if_neg y, so_io hlog]
          exact (a i hi y hdn).1
    · rintro ⟨a, b⟩
      refine ⟨fun x hx hu hdn => ?_, fun g hg hget hdn => ?_⟩
      · have q := b x hx hdn
        rw [if_neg hu, so_io hlog] at q
        refine ⟨q, fun y hy hyu hk hle => ?_⟩
        have q' := (of_decide_eq_true q).1
        rcases Decidable.em (placeF A e y = 0) with z | z
        · exact Or.inl z
        · right
          have px := placeF_at q'
          have py := placeF_at z
          have lx := placeF_le A e x
          have ly := placeF_le A e y
          rcases Nat.lt_trichotomy (placeF A e y) (placeF A e x) with t | t | t
          · have w := a (placeF A e y - 1) (by omega) (placeF A e x - 1) (by omega) (by omega)
            have ex : lgO A e (placeF A e x - 1) = x := px
            have ey : lgO A e (placeF A e y - 1) = y := py
            rw [ex, ey] at w
            have w' := w hk.symm
            unfold dbF at w'
            rw [decide_eq_true ⟨hdn, hle⟩] at w'
            cases w'
          · rw [t, px] at py
            have := hm.2 x hdn
            rw [← py] at hle
            omega
          · exact t
      · have q := b g hg hdn
        rw [if_pos hget, fi_seen hdn] at q
        exact q
  rw [key]
  by_cases y : (ioC A e (tn A 26 e) && paC A e (tf A 13)) = true
  · rw [if_pos y, y]
    rfl
  · rw [if_neg y]
    rw [Bool.not_eq_true] at y
    rw [y]
    rfl
/-! what calls show -/
theorem hdF_cn {w : Nat} : ∀ n, hdF A w n = cnP (fun i => decide (plW A w i ≠ 0)) n
  | 0 => rfl
  | n + 1 => by
    unfold hdF cnP
    rw [hdF_cn n]
    by_cases y : plW A w n = 0
    · rw [if_pos y, if_neg (by simp [y])]
    · rw [if_neg y, if_pos (decide_eq_true y)]
theorem held_ok {w : Nat} (h : WI A w) : hdF A w (tf A 2 * tf A 3) = tn A 44 w := by
  obtain ⟨q1, q2, q3, q4⟩ := h
  have hp := WI.pl (A := A) (w := w) ⟨q1, q2, q3, q4⟩
  rw [hdF_cn]
  have hx : ∀ i, ∃ k, i < tf A 2 * tf A 3 → plW A w i ≠ 0 → k < tn A 44 w ∧ tn A 43 (16 * w + k) + 1 = plW A w i := fun i => by
    by_cases y : i < tf A 2 * tf A 3 ∧ plW A w i ≠ 0
    · obtain ⟨k, a, b⟩ := (q2 i y.1 y.2).1
      exact ⟨k, fun _ _ => ⟨a, b⟩⟩
    · exact ⟨0, fun a b => absurd ⟨a, b⟩ y⟩
  apply Nat.le_antisymm
  · refine cnP_bd (fun i hi hp => ?_) (fun i => Classical.choose (hx i)) (fun i hi hp => (Classical.choose_spec (hx i) hi (of_decide_eq_true hp)).1) (fun i j hi hj hpi hpj he => ?_)
    · have := Classical.choose_spec (hx i) hi (of_decide_eq_true hp)
      exact ⟨_, this.1, trivial⟩
    · have a := (Classical.choose_spec (hx i) hi (of_decide_eq_true hpi)).2
      have b := (Classical.choose_spec (hx j) hj (of_decide_eq_true hpj)).2
      have he' : Classical.choose (hx i) = Classical.choose (hx j) := he
      rw [he', b] at a
      have zi : plW A w i ≠ 0 := of_decide_eq_true hpi
      have zj : plW A w j ≠ 0 := of_decide_eq_true hpj
      refine q3 i j hi hj zi zj ?_
      have a' : tn A 1 (16 * w + j) = tn A 1 (16 * w + i) := a
      rw [a']
  · refine cnP_ge (fun k => Classical.choose (hp k)) (fun k hk => ?_) (fun i j hi hj he => ?_)
    · have a := Classical.choose_spec (hp k) hk
      refine ⟨a.1, decide_eq_true ?_⟩
      have a2 : plW A w (Classical.choose (hp k)) = tn A 43 (16 * w + k) + 1 := a.2
      rw [a2]
      omega
    · have a := (Classical.choose_spec (hp i) hi).2
      have b := (Classical.choose_spec (hp j) hj).2
      have he' : Classical.choose (hp i) = Classical.choose (hp j) := he
      rw [he', b] at a
      exact q4 i j hi hj (by omega)
theorem kyF_bit {w j : Nat} : ∀ n, (kyF A w n).testBit j = true ↔ ∃ i, i < n ∧ plW A w i ≠ 0 ∧ tn A 8 (plW A w i - 1) = j
  | 0 => ⟨fun z => by simp [kyF] at z, fun ⟨i, hi, _⟩ => absurd hi (Nat.not_lt_zero _)⟩
  | n + 1 => by
    unfold kyF
    by_cases y : plW A w n = 0
    · rw [if_pos y, kyF_bit n]
      constructor
      · rintro ⟨i, a, b⟩
        exact ⟨i, by omega, b⟩
      · rintro ⟨i, a, b⟩
        by_cases z : i = n
        · rw [z] at b; exact absurd y b.1
        · exact ⟨i, by omega, b⟩
    · rw [if_neg y, Nat.testBit_or, Bool.or_eq_true, kyF_bit n, Nat.testBit_two_pow, decide_eq_true_eq]
      constructor
      · rintro (⟨i, a, b⟩ | b)
        · exact ⟨i, by omega, b⟩
        · exact ⟨n, by omega, y, b⟩
      · rintro ⟨i, a, b⟩
        by_cases z : i = n
        · rw [z] at b; exact Or.inr b.2
        · exact Or.inl ⟨i, by omega, b⟩
theorem bitF_bit {w j : Nat} : ∀ n, (bitF A w n).testBit j = true ↔ ∃ k, k < n ∧ tn A 8 (tn A 43 (16 * w + k)) = j
  | 0 => ⟨fun z => by simp [bitF] at z, fun ⟨i, hi, _⟩ => absurd hi (Nat.not_lt_zero _)⟩
  | n + 1 => by
    unfold bitF
    rw [Nat.testBit_or, Bool.or_eq_true, bitF_bit n, Nat.testBit_two_pow, decide_eq_true_eq]
    constructor
    · rintro (⟨i, a, b⟩ | b)
      · exact ⟨i, by omega, b⟩
      · exact ⟨n, by omega, b⟩
    · rintro ⟨i, a, b⟩
      by_cases z : i = n
      · rw [z] at b; exact Or.inr b
      · exact Or.inl ⟨i, by omega, b⟩
theorem keys_ok {w : Nat} (h : WI A w) : kyF A w (tf A 2 * tf A 3) = bitF A w (tn A 44 w) := by
  refine Nat.eq_of_testBit_eq (fun j => ?_)
  rw [Bool.eq_iff_iff, kyF_bit, bitF_bit]
  constructor
  · rintro ⟨i, a, b, c⟩
    obtain ⟨⟨k, hk, e⟩, -⟩ := h.2.1 i a b
    refine ⟨k, hk, ?_⟩
    have e' : tn A 43 (16 * w + k) + 1 = plW A w i := e
    rw [← e', show tn A 43 (16 * w + k) + 1 - 1 = tn A 43 (16 * w + k) by omega] at c
    exact c
  · rintro ⟨k, hk, c⟩
    obtain ⟨-, i, hi, e⟩ := h.1 k hk
    have e' : plW A w i = tn A 43 (16 * w + k) + 1 := e
    refine ⟨i, hi, by omega, ?_⟩
    rw [e', show tn A 43 (16 * w + k) + 1 - 1 = tn A 43 (16 * w + k) by omega]
    exact c
theorem wit_show {w t : Nat} (h : WI A w) : witC A w t = witV A w t := by
  match t with
  | 0 => rfl
  | 1 => rfl
  | 2 => show nI _ = nI _; rw [held_ok h]
  | t + 3 => show nI _ = nI _; rw [keys_ok h]
theorem cli_show {c t : Nat} (h : INV K A) (hc : c < 4) (ht : t < 7) : cliC A c t = if t = 4 then bcF (nI (tn A 18 c)) else cliV A c t := by
  have : t = 0 ∨ t = 1 ∨ t = 2 ∨ t = 3 ∨ t = 4 ∨ t = 5 ∨ t = 6 := by omega
  rcases this with rfl | rfl | rfl | rfl | rfl | rfl | rfl
  · rfl
  · rfl
  · show (if tn A 16 c = 0 then nI 0 else tr A 12 (tn A 16 c - 1)) = (if tn A 16 c = 0 ∨ opnF A c = true then nI 0 else tr A 12 (tn A 16 c - 1))
    by_cases y : tn A 16 c = 0
    · rw [if_pos y, if_pos (Or.inl y)]
    · rw [if_neg y]
      by_cases z : opnF A c = true
      · rw [if_pos (Or.inr z), h.2.1.2.2.2.2.2 _ (by have := (h.2.2.1 c hc).1; omega) (opn_16 z).2]
        exact nI_0.symm
      · rw [if_neg (fun t => t.elim y z)]
  · rfl
  · rfl
  · show one9 (tb A 19 c && opnF A c) = one9 (opnF A c && tb A 19 c)
    rw [Bool.and_comm]
  · rfl
theorem cnt_show {t : Nat} (h : INV K A) : (if t = 1 then tf A 5 else if t = 2 then tf A 6 else cntV A t) = cntV A t := by
  split
  · rename_i y
    rw [y]
    exact h.1.1
  · split
    · rename_i y
      rw [y]
      exact h.1.2.1
    · rfl
end
