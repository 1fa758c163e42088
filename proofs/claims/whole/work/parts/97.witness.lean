/-! ===== letters at a witness: both sides ===== -/
section
def cnP (P : Nat → Bool) : Nat → Nat
  | 0 => 0
  | k + 1 => if P k = true then cnP P k + 1 else cnP P k
theorem cnP_le (P : Nat → Bool) : ∀ k, cnP P k ≤ k
  | 0 => Nat.le_refl _
  | k + 1 => by have := cnP_le P k; unfold cnP; split <;> omega
theorem cnP_up (P : Nat → Bool) (k : Nat) : ∀ t, cnP P k ≤ cnP P (k + t)
  | 0 => Nat.le_refl _
  | t + 1 => by
    have ih := cnP_up P k t
    have e1 : cnP P (k + (t + 1)) = if P (k + t) = true then cnP P (k + t) + 1 else cnP P (k + t) := rfl
    rw [e1]
    split <;> omega
theorem cnP_mono {P : Nat → Bool} {k n : Nat} (h : k ≤ n) : cnP P k ≤ cnP P n := by
  have := cnP_up P k (n - k)
  rwa [show k + (n - k) = n by omega] at this
theorem cnP_lt {P : Nat → Bool} {k n : Nat} (hk : k < n) (hp : P k = true) : cnP P k < cnP P n := by
  have h1 : cnP P (k + 1) = cnP P k + 1 := by
    show (if P k = true then cnP P k + 1 else cnP P k) = _
    rw [if_pos hp]
  have := cnP_mono (P := P) (show k + 1 ≤ n from hk)
  omega
theorem cnP_ex (P : Nat → Bool) : ∀ n p, p < cnP P n → ∃ k, k < n ∧ P k = true ∧ cnP P k = p
  | 0, p, h => absurd h (Nat.not_lt_zero _)
  | n + 1, p, h => by
    unfold cnP at h
    split at h
    · rename_i y
      by_cases z : p = cnP P n
      · exact ⟨n, by omega, y, z.symm⟩
      · obtain ⟨k, a, b, c⟩ := cnP_ex P n p (by omega)
        exact ⟨k, by omega, b, c⟩
    · obtain ⟨k, a, b, c⟩ := cnP_ex P n p h
      exact ⟨k, by omega, b, c⟩
theorem cnP_inj {P : Nat → Bool} {i j : Nat} (hi : P i = true) (hj : P j = true) (h : cnP P i = cnP P j) : i = j := by
  rcases Nat.lt_trichotomy i j with y | y | y
  · have := cnP_lt y hi; omega
  · exact y
  · have := cnP_lt y hj; omega
/-- at most n, where each has a place of its own below n -/
theorem cnP_bd {P : Nat → Bool} {m n : Nat} (g : ∀ k, k < m → P k = true → ∃ i, i < n ∧ True) (f : Nat → Nat) (hf : ∀ k, k < m → P k = true → f k < n) (hi : ∀ k l, k < m → l < m → P k = true → P l = true → f k = f l → k = l) : cnP P m ≤ n := by
  have hx : ∀ p, ∃ k, p < cnP P m → k < m ∧ P k = true ∧ cnP P k = p := fun p => by
    by_cases y : p < cnP P m
    · obtain ⟨k, a⟩ := cnP_ex P m p y
      exact ⟨k, fun _ => a⟩
    · exact ⟨0, fun z => absurd z y⟩
  refine pigeon n (cnP P m) (fun p => f (Classical.choose (hx p))) (fun p hp => ?_) (fun p q hp hq he => ?_)
  · have a := Classical.choose_spec (hx p) hp
    exact hf _ a.1 a.2.1
  · have a := Classical.choose_spec (hx p) hp
    have b := Classical.choose_spec (hx q) hq
    have := hi _ _ a.1 b.1 a.2.1 b.2.1 he
    rw [← a.2.2, ← b.2.2, this]
theorem cnP_ge {P : Nat → Bool} {m n : Nat} (g : Nat → Nat) (hg : ∀ j, j < n → g j < m ∧ P (g j) = true) (hi : ∀ i j, i < n → j < n → g i = g j → i = j) : n ≤ cnP P m :=
  pigeon (cnP P m) n (fun j => cnP P (g j)) (fun j hj => cnP_lt (hg j hj).1 (hg j hj).2) (fun i j a b h => hi i j a b (cnP_inj (hg i a).2 (hg j b).2 h))
end
section
variable {K : Nat} {A B X : TS}
theorem EQ.mrg (F C : TS) : EQ F (mrg F C) := by
  refine ⟨fun j a b => ?_, fun j i a => ?_, fun j i a b c => ?_, fun _ _ => Eq.refl _⟩
  · rw [mrg_tf, if_neg (by omega)]
  · rw [mrg_tn, if_neg a]
  · rw [mrg_tr, if_neg (by omega)]
theorem rlq.mrg {F C : TS} (h : EQ2 F C) : rlq [0] [43, 44] [20] (mrg F C) C := by
  refine ⟨fun j a => ?_, fun j i a => ?_, fun j i a => ?_, fun j i => ?_⟩
  · simp only [List.mem_cons, List.not_mem_nil, or_false, not_or] at a
    rw [mrg_tf]
    split
    · rfl
    · exact h.1 j a (by omega) (by omega)
  · simp only [List.mem_cons, List.not_mem_nil, or_false, not_or] at a
    rw [mrg_tn]
    split
    · rfl
    · exact h.2.1 j i (by omega) a.1 a.2
  · simp only [List.mem_cons, List.not_mem_nil, or_false, not_or] at a
    rw [mrg_tr]
    split
    · rfl
    · exact h.2.2.1 j i (by omega) (by omega) (by omega) a
  · rw [mrg_tb]
    exact h.2.2.2 j i
theorem INV.wit {K' : Nat} (h : INV K A) (d : df X A [] [1, 41, 43, 44] [] [42]) (hsl : sl X A) (nb : NB K' X) (hK : K ≤ K') (hw : iWit X) : INV K' X := by
  obtain ⟨h1, h2, h3, h4, h5, h6, h7, h8, h9, h10, h11, h12, h13, h14, h15⟩ := h
  exact ⟨h1.df d (by decide) (by rw [(d).1 53 (by decide)]; exact h1.2.2.2.2.2.1), h2.df d (by decide) (by decide) (by decide), h3.df d (by decide) (by decide), h4.df d (by decide) (by decide), h5.df d (by decide) (by decide) (by decide), h6.df d (by decide) (by decide) (by decide), h7.df d (by decide) (by decide) (by decide), h8.df d (by decide) (by decide), h9.df d (by decide) (by decide), h10.df d (by decide) (by decide) hsl, h11.df d (by decide) (by decide) (by decide), hw, h13.df d (by decide) (by decide), nb, by omega⟩
/-- a witness's records and its places -/
def WI (A : TS) (w : Nat) : Prop := (∀ k, k < tn A 44 w → tn A 43 (16 * w + k) < tf A 13 ∧ ∃ i, i < tf A 2 * tf A 3 ∧ tn A 1 (16 * w + i) = tn A 43 (16 * w + k) + 1) ∧ (∀ i, i < tf A 2 * tf A 3 → tn A 1 (16 * w + i) ≠ 0 → (∃ k, k < tn A 44 w ∧ tn A 43 (16 * w + k) + 1 = tn A 1 (16 * w + i)) ∧ tn A 7 (tn A 1 (16 * w + i) - 1) ≠ 2 ∧ i / tf A 3 = tn A 8 (tn A 1 (16 * w + i) - 1) % tf A 2) ∧ (∀ i j, i < tf A 2 * tf A 3 → j < tf A 2 * tf A 3 → tn A 1 (16 * w + i) ≠ 0 → tn A 1 (16 * w + j) ≠ 0 → tn A 8 (tn A 1 (16 * w + i) - 1) = tn A 8 (tn A 1 (16 * w + j) - 1) → i = j) ∧ (∀ k l, k < tn A 44 w → l < tn A 44 w → tn A 43 (16 * w + k) = tn A 43 (16 * w + l) → k = l)
theorem iWit_is : iWit A ↔ ∀ w, w < tf A 1 → WI A w := Iff.rfl
theorem N16 (h : iNum A) : tf A 2 * tf A 3 ≤ 16 := Nat.mul_le_mul h.2.2.2.2.2.2.2.2.2.1 h.2.2.2.2.2.2.2.2.2.2.2.1
theorem WI.pl {w : Nat} (h : WI A w) : ∀ k, ∃ i, k < tn A 44 w → i < tf A 2 * tf A 3 ∧ tn A 1 (16 * w + i) = tn A 43 (16 * w + k) + 1 := fun k => by
  by_cases y : k < tn A 44 w
  · obtain ⟨i, a⟩ := (h.1 k y).2
    exact ⟨i, fun _ => a⟩
  · exact ⟨0, fun z => absurd z y⟩
theorem WI.m {w : Nat} (h : WI A w) : tn A 44 w ≤ tf A 2 * tf A 3 := by
  refine pigeon _ _ (fun k => Classical.choose (h.pl k)) (fun k hk => (Classical.choose_spec (h.pl k) hk).1) (fun i j hi hj he => ?_)
  have a := (Classical.choose_spec (h.pl i) hi).2
  have b := (Classical.choose_spec (h.pl j) hj).2
  have he' : Classical.choose (h.pl i) = Classical.choose (h.pl j) := he
  rw [he', b] at a
  exact h.2.2.2 i j hi hj (by omega)
theorem WI.m1 {w i0 : Nat} (h : WI A w) (hi0 : i0 < tf A 2 * tf A 3) (hz : tn A 1 (16 * w + i0) = 0) : tn A 44 w < tf A 2 * tf A 3 := by
  have := pigeon (tf A 2 * tf A 3) (tn A 44 w + 1) (fun k => if k < tn A 44 w then Classical.choose (h.pl k) else i0) (fun k hk => ?_) (fun i j hi hj he => ?_)
  · omega
  · show (if k < tn A 44 w then Classical.choose (h.pl k) else i0) < _
    split
    · rename_i y
      exact (Classical.choose_spec (h.pl k) y).1
    · exact hi0
  · have he' : (if i < tn A 44 w then Classical.choose (h.pl i) else i0) = (if j < tn A 44 w then Classical.choose (h.pl j) else i0) := he
    split at he' <;> split at he'
    · rename_i y z
      have a := (Classical.choose_spec (h.pl i) y).2
      have b := (Classical.choose_spec (h.pl j) z).2
      rw [he', b] at a
      exact h.2.2.2 i j y z (by omega)
    · rename_i y z
      have a := (Classical.choose_spec (h.pl i) y).2
      rw [he', hz] at a
      omega
    · rename_i y z
      have a := (Classical.choose_spec (h.pl j) z).2
      rw [← he', hz] at a
      omega
    · omega
theorem hoF_iff {w op : Nat} : ∀ n, hoF A w op n = true ↔ ∃ k, k < n ∧ tn A 43 (16 * w + k) = op
  | 0 => ⟨fun z => absurd z (by unfold hoF; decide), fun ⟨k, hk, _⟩ => absurd hk (Nat.not_lt_zero _)⟩
  | n + 1 => by
    unfold hoF
    rw [Bool.or_eq_true, hoF_iff n, decide_eq_true_eq]
    constructor
    · rintro (⟨k, a, b⟩ | b)
      · exact ⟨k, by omega, b⟩
      · exact ⟨n, by omega, b⟩
    · rintro ⟨k, a, b⟩
      by_cases y : k = n
      · exact Or.inr (y ▸ b)
      · exact Or.inl ⟨k, by omega, b⟩
theorem hrF_iff {w ky : Nat} : ∀ n, hrF A w ky n = true ↔ ∀ k, k < n → tn A 8 (tn A 43 (16 * w + k)) ≠ ky
  | 0 => ⟨fun _ k hk => absurd hk (Nat.not_lt_zero _), fun _ => rfl⟩
  | n + 1 => by
    unfold hrF
    rw [Bool.and_eq_true, hrF_iff n, decide_eq_true_eq]
    constructor
    · rintro ⟨a, b⟩ k hk
      by_cases y : k = n
      · exact y ▸ b
      · exact a k (by omega)
    · exact fun a => ⟨fun k hk => a k (by omega), a n (by omega)⟩
theorem hiF_cn {w ky : Nat} : ∀ n, hiF A w ky n = cnP (fun k => decide (tn A 8 (tn A 43 (16 * w + k)) % tf A 2 = ky % tf A 2)) n
  | 0 => rfl
  | n + 1 => by
    unfold hiF cnP
    rw [hiF_cn n]
    by_cases y : tn A 8 (tn A 43 (16 * w + n)) % tf A 2 = ky % tf A 2
    · rw [if_pos y, if_pos (decide_eq_true y)]
    · rw [if_neg y, if_neg (by simpa using y)]
      rfl
theorem rrD_none {w op fi : Nat} : ∀ n, (∀ j, j < n → plW A w (fi + j) ≠ op + 1 ∧ (plW A w (fi + j) = 0 ∨ tn A 8 (plW A w (fi + j) - 1) ≠ tn A 8 op)) → rrD A w op fi n = 0
  | 0, _ => rfl
  | n + 1, h => by
    unfold rrD
    rw [rrD_none n (fun j hj => h j (by omega)), if_neg (fun z => z rfl)]
    obtain ⟨a, b⟩ := h n (by omega)
    rw [if_neg a]
    split
    · rfl
    · rename_i y
      rw [if_neg (b.resolve_left y)]
theorem rrD_st {w op fi k : Nat} (h : rrD A w op fi k ≠ 0) : ∀ t, rrD A w op fi (k + t) = rrD A w op fi k
  | 0 => rfl
  | t + 1 => by
    have ih := rrD_st h t
    show (if rrD A w op fi (k + t) ≠ 0 then rrD A w op fi (k + t) else _) = _
    rw [if_pos (by rw [ih]; exact h), ih]
theorem frW_0 {w fi : Nat} : ∀ n, frW A w fi n = 0 ↔ ∀ j, j < n → plW A w (fi + j) ≠ 0
  | 0 => ⟨fun _ j hj => absurd hj (Nat.not_lt_zero _), fun _ => rfl⟩
  | n + 1 => by
    unfold frW
    split
    · rename_i y
      exact ⟨fun z => by omega, fun z => absurd y (z n (by omega))⟩
    · rename_i y
      rw [frW_0 n]
      refine ⟨fun z j hj => ?_, fun z j hj => z j (by omega)⟩
      by_cases t : j = n
      · exact t ▸ y
      · exact z j (by omega)
theorem frW_s {w fi : Nat} : ∀ n, frW A w fi n ≠ 0 → ∃ j, j < n ∧ frW A w fi n = fi + j + 1 ∧ plW A w (fi + j) = 0
  | 0, h => absurd rfl h
  | n + 1, h => by
    unfold frW at h ⊢
    split
    · rename_i y
      exact ⟨n, by omega, rfl, y⟩
    · rename_i y
      rw [if_neg y] at h
      obtain ⟨j, a, b, c⟩ := frW_s n h
      exact ⟨j, by omega, b, c⟩
theorem set_in {s sets ways j : Nat} (hs : s < sets) (hj : j < ways) : s * ways + j < sets * ways ∧ (s * ways + j) / ways = s := by
  have h1 : (s + 1) * ways ≤ sets * ways := Nat.mul_le_mul_right _ hs
  rw [Nat.add_mul, Nat.one_mul] at h1
  refine ⟨by omega, ?_⟩
  rw [Nat.mul_comm, Nat.mul_add_div (by omega), Nat.div_eq_of_lt hj, Nat.add_zero]
theorem set_of {ways i s : Nat} (hw : 0 < ways) (h : i / ways = s) : ∃ j, j < ways ∧ i = s * ways + j := by
  refine ⟨i % ways, Nat.mod_lt _ hw, ?_⟩
  rw [← h, Nat.mul_comm]
  exact (Nat.div_add_mod i ways).symm
/-- what a witness finds: held; another of the key; full; a place -/
theorem rec_cs {w op : Nat} (hN : iNum A) (h : WI A w) :
    (rrD A w op (tn A 8 op % tf A 2 * tf A 3) (tf A 3) = 1 ∧ holdF A w op = true) ∨
    (rrD A w op (tn A 8 op % tf A 2 * tf A 3) (tf A 3) = 2 ∧ holdF A w op = false ∧ roomF A w (tn A 8 op) = false) ∨
    (rrD A w op (tn A 8 op % tf A 2 * tf A 3) (tf A 3) = 0 ∧ frW A w (tn A 8 op % tf A 2 * tf A 3) (tf A 3) = 0 ∧ holdF A w op = false ∧ roomF A w (tn A 8 op) = false) ∨
    (rrD A w op (tn A 8 op % tf A 2 * tf A 3) (tf A 3) = 0 ∧ holdF A w op = false ∧ roomF A w (tn A 8 op) = true ∧ (∀ i, i < tf A 2 * tf A 3 → tn A 1 (16 * w + i) ≠ op + 1) ∧ (∀ i, i < tf A 2 * tf A 3 → tn A 1 (16 * w + i) ≠ 0 → tn A 8 (tn A 1 (16 * w + i) - 1) ≠ tn A 8 op) ∧ ∃ i0, i0 < tf A 2 * tf A 3 ∧ frW A w (tn A 8 op % tf A 2 * tf A 3) (tf A 3) = i0 + 1 ∧ tn A 1 (16 * w + i0) = 0 ∧ i0 / tf A 3 = tn A 8 op % tf A 2) := by
  obtain ⟨h1, h2, h3, h4⟩ := h
  have hsets : 0 < tf A 2 := hN.2.2.2.2.2.2.2.2.1
  have hways : 0 < tf A 3 := hN.2.2.2.2.2.2.2.2.2.2.1
  have hs : tn A 8 op % tf A 2 < tf A 2 := Nat.mod_lt _ hsets
  have hin : ∀ j, j < tf A 3 → tn A 8 op % tf A 2 * tf A 3 + j < tf A 2 * tf A 3 ∧ (tn A 8 op % tf A 2 * tf A 3 + j) / tf A 3 = tn A 8 op % tf A 2 := fun j hj => set_in hs hj
  have hof : ∀ i, i / tf A 3 = tn A 8 op % tf A 2 → ∃ j, j < tf A 3 ∧ i = tn A 8 op % tf A 2 * tf A 3 + j := fun i hi => set_of hways hi
  generalize hfi : tn A 8 op % tf A 2 * tf A 3 = fi at *
  by_cases H : ∃ i, i < tf A 2 * tf A 3 ∧ tn A 1 (16 * w + i) = op + 1
  · obtain ⟨i, hi, he⟩ := H
    obtain ⟨⟨k, hk, hke⟩, -, hdiv⟩ := h2 i hi (by omega)
    rw [he, show op + 1 - 1 = op by omega] at hdiv
    obtain ⟨j, hj, rfl⟩ := hof i hdiv
    refine Or.inl ⟨?_, (hoF_iff _).mpr ⟨k, hk, by omega⟩⟩
    have h0 : rrD A w op fi j = 0 := rrD_none j (fun j' hj' => by
      have hne : plW A w (fi + j') = 0 ∨ tn A 8 (plW A w (fi + j') - 1) ≠ tn A 8 op := by
        by_cases y : plW A w (fi + j') = 0
        · exact Or.inl y
        · refine Or.inr (fun z => ?_)
          have := h3 (fi + j') (fi + j) (hin j' (by omega)).1 hi y (by omega) (by rw [he, show op + 1 - 1 = op by omega]; exact z)
          omega
      refine ⟨fun z => ?_, hne⟩
      rcases hne with y | y
      · omega
      · rw [z, show op + 1 - 1 = op by omega] at y
        exact y rfl)
    have e1 : rrD A w op fi (j + 1) = 1 := by
      unfold rrD
      rw [h0, if_neg (fun z => z rfl), if_pos (by exact he)]
    have := rrD_st (A := A) (w := w) (op := op) (fi := fi) (k := j + 1) (by rw [e1]; decide) (tf A 3 - (j + 1))
    rw [show j + 1 + (tf A 3 - (j + 1)) = tf A 3 by omega, e1] at this
    exact this
  · have hno : ∀ i, i < tf A 2 * tf A 3 → tn A 1 (16 * w + i) ≠ op + 1 := fun i hi z => H ⟨i, hi, z⟩
    have hho : holdF A w op = false := by
      rw [← Bool.not_eq_true]
      intro z
      obtain ⟨k, hk, he⟩ := (hoF_iff _).mp z
      obtain ⟨i, hi, hie⟩ := (h1 k hk).2
      exact hno i hi (by omega)
    by_cases Hk : ∃ i, i < tf A 2 * tf A 3 ∧ tn A 1 (16 * w + i) ≠ 0 ∧ tn A 8 (tn A 1 (16 * w + i) - 1) = tn A 8 op
    · obtain ⟨i, hi, hz, hke⟩ := Hk
      obtain ⟨⟨k, hk, hkk⟩, -, hdiv⟩ := h2 i hi hz
      rw [hke] at hdiv
      obtain ⟨j, hj, rfl⟩ := hof i hdiv
      refine Or.inr (Or.inl ⟨?_, hho, ?_⟩)
      · have h0 : rrD A w op fi j = 0 := rrD_none j (fun j' hj' => by
          refine ⟨hno _ (hin j' (by omega)).1, ?_⟩
          by_cases y : plW A w (fi + j') = 0
          · exact Or.inl y
          · refine Or.inr (fun z => ?_)
            have := h3 (fi + j') (fi + j) (hin j' (by omega)).1 hi y hz (by rw [hke]; exact z)
            omega)
        have e1 : rrD A w op fi (j + 1) = 2 := by
          unfold rrD
          rw [h0, if_neg (fun z => z rfl), if_neg (show ¬ plW A w (fi + j) = op + 1 from hno _ hi), if_neg (show ¬ plW A w (fi + j) = 0 from hz), if_pos (show tn A 8 (plW A w (fi + j) - 1) = tn A 8 op from hke)]
        have := rrD_st (A := A) (w := w) (op := op) (fi := fi) (k := j + 1) (by rw [e1]; decide) (tf A 3 - (j + 1))
        rw [show j + 1 + (tf A 3 - (j + 1)) = tf A 3 by omega, e1] at this
        exact this
      · unfold roomF
        have : hrF A w (tn A 8 op) (tn A 44 w) = false := by
          rw [← Bool.not_eq_true]
          intro z
          refine (hrF_iff _).mp z k hk ?_
          rw [← hke, ← hkk, show tn A 43 (16 * w + k) + 1 - 1 = tn A 43 (16 * w + k) by omega]
        rw [this, Bool.false_and]
    · have hkn : ∀ i, i < tf A 2 * tf A 3 → tn A 1 (16 * w + i) ≠ 0 → tn A 8 (tn A 1 (16 * w + i) - 1) ≠ tn A 8 op := fun i hi hz he => Hk ⟨i, hi, hz, he⟩
      have hD : rrD A w op fi (tf A 3) = 0 := rrD_none _ (fun j hj => by
        refine ⟨hno _ (hin j hj).1, ?_⟩
        by_cases y : plW A w (fi + j) = 0
        · exact Or.inl y
        · exact Or.inr (hkn _ (hin j hj).1 y))
      have hr : hrF A w (tn A 8 op) (tn A 44 w) = true := (hrF_iff _).mpr (fun k hk z => by
        obtain ⟨i, hi, hie⟩ := (h1 k hk).2
        refine hkn i hi (by omega) ?_
        rw [hie, show tn A 43 (16 * w + k) + 1 - 1 = tn A 43 (16 * w + k) by omega]
        exact z)
      have hpl := WI.pl (A := A) (w := w) ⟨h1, h2, h3, h4⟩
      by_cases hf : frW A w fi (tf A 3) = 0
      · refine Or.inr (Or.inr (Or.inl ⟨hD, hf, hho, ?_⟩))
        have hall := (frW_0 _).mp hf
        have hx : ∀ j, ∃ k, j < tf A 3 → k < tn A 44 w ∧ tn A 43 (16 * w + k) + 1 = tn A 1 (16 * w + (fi + j)) := fun j => by
          by_cases y : j < tf A 3
          · obtain ⟨⟨k, a, b⟩, -⟩ := h2 (fi + j) (hin j y).1 (hall j y)
            exact ⟨k, fun _ => ⟨a, b⟩⟩
          · exact ⟨0, fun z => absurd z y⟩
        have hge := cnP_ge (P := fun k => decide (tn A 8 (tn A 43 (16 * w + k)) % tf A 2 = tn A 8 op % tf A 2)) (m := tn A 44 w) (n := tf A 3) (fun j => Classical.choose (hx j)) (fun j hj => ?_) (fun i j hi hj he => ?_)
        · unfold roomF
          rw [hiF_cn, hr, Bool.true_and]
          exact decide_eq_false (by omega)
        · have a := Classical.choose_spec (hx j) hj
          refine ⟨a.1, decide_eq_true ?_⟩
          have q := (h2 (fi + j) (hin j hj).1 (hall j hj)).2.2
          rw [(hin j hj).2, ← a.2] at q
          exact q.symm
        · have a := (Classical.choose_spec (hx i) hi).2
          have b := (Classical.choose_spec (hx j) hj).2
          have he' : Classical.choose (hx i) = Classical.choose (hx j) := he
          rw [he', b] at a
          have hz := hall i hi
          have hz2 := hall j hj
          have := h3 (fi + j) (fi + i) (hin j hj).1 (hin i hi).1 hz2 hz (by rw [a])
          omega
      · refine Or.inr (Or.inr (Or.inr ⟨hD, hho, ?_, hno, hkn, ?_⟩))
        · obtain ⟨j0, hj0, -, hz0⟩ := frW_s _ hf
          have hle := cnP_bd (P := fun k => decide (tn A 8 (tn A 43 (16 * w + k)) % tf A 2 = tn A 8 op % tf A 2)) (m := tn A 44 w) (n := tf A 3 - 1) (fun k hk hp => ?_) (fun k => if Classical.choose (hpl k) - fi < j0 then Classical.choose (hpl k) - fi else Classical.choose (hpl k) - fi - 1) (fun k hk hp => ?_) (fun k l hk hl hp hq he => ?_)
          · unfold roomF
            rw [hiF_cn, hr, Bool.true_and]
            exact decide_eq_true (by omega)
          · exact ⟨0, by
              by_cases y : tf A 3 = 1
              · exfalso
                have a := Classical.choose_spec (hpl k) hk
                have hdv := (h2 _ a.1 (by rw [a.2]; omega)).2.2
                rw [a.2, show tn A 43 (16 * w + k) + 1 - 1 = tn A 43 (16 * w + k) by omega, of_decide_eq_true hp] at hdv
                obtain ⟨j, hj, e⟩ := hof _ hdv
                have : j = j0 := by omega
                rw [this] at e
                have hz0' : tn A 1 (16 * w + (fi + j0)) = 0 := hz0
                rw [e, hz0'] at a
                omega
              · omega, trivial⟩
          · have a := Classical.choose_spec (hpl k) hk
            have hdv := (h2 _ a.1 (by rw [a.2]; omega)).2.2
            rw [a.2, show tn A 43 (16 * w + k) + 1 - 1 = tn A 43 (16 * w + k) by omega, of_decide_eq_true hp] at hdv
            obtain ⟨j, hj, e⟩ := hof _ hdv
            have hne : j ≠ j0 := fun z => by
              have hz0' : tn A 1 (16 * w + (fi + j0)) = 0 := hz0
              rw [e, z, hz0'] at a
              omega
            show (if Classical.choose (hpl k) - fi < j0 then Classical.choose (hpl k) - fi else Classical.choose (hpl k) - fi - 1) < tf A 3 - 1
            rw [e, show fi + j - fi = j by omega]
            split <;> omega
          · have a := Classical.choose_spec (hpl k) hk
            have hdv := (h2 _ a.1 (by rw [a.2]; omega)).2.2
            rw [a.2, show tn A 43 (16 * w + k) + 1 - 1 = tn A 43 (16 * w + k) by omega, of_decide_eq_true hp] at hdv
            obtain ⟨j, hj, e⟩ := hof _ hdv
            have hz0' : tn A 1 (16 * w + (fi + j0)) = 0 := hz0
            have hne : j ≠ j0 := fun z => by
              rw [e, z, hz0'] at a
              omega
            have a' := Classical.choose_spec (hpl l) hl
            have hdv' := (h2 _ a'.1 (by rw [a'.2]; omega)).2.2
            rw [a'.2, show tn A 43 (16 * w + l) + 1 - 1 = tn A 43 (16 * w + l) by omega, of_decide_eq_true hq] at hdv'
            obtain ⟨j', hj', e'⟩ := hof _ hdv'
            have hne' : j' ≠ j0 := fun z => by
              rw [e', z, hz0'] at a'
              omega
            have he' : (if Classical.choose (hpl k) - fi < j0 then Classical.choose (hpl k) - fi else Classical.choose (hpl k) - fi - 1) = (if Classical.choose (hpl l) - fi < j0 then Classical.choose (hpl l) - fi else Classical.choose (hpl l) - fi - 1) := he
            rw [e, e', show fi + j - fi = j by omega, show fi + j' - fi = j' by omega] at he'
            have hjj : j = j' := by
              split at he' <;> split at he' <;> omega
            rw [e, hjj, ← e', a'.2] at a
            exact h4 k l hk hl (by omega)
        · obtain ⟨j0, hj0, he0, hz0⟩ := frW_s _ hf
          exact ⟨fi + j0, (hin j0 hj0).1, he0, hz0, (hin j0 hj0).2⟩
theorem wit_fit {w op : Nat} (hN : iNum A) (h : WI A w) (hh : holdF A w op = false) (hr : roomF A w (tn A 8 op) = true) : tn A 44 w < 16 := by
  have n16 := N16 hN
  rcases rec_cs (op := op) hN h with ⟨-, a⟩ | ⟨-, -, a⟩ | ⟨-, -, -, a⟩ | ⟨-, -, -, -, -, i0, a, -, b, -⟩
  · rw [hh] at a; cases a
  · rw [hr] at a; cases a
  · rw [hr] at a; cases a
  · have := h.m1 a b
    omega
end
