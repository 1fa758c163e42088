/-! ===== letters are taken; a master's gets and its log ===== -/
theorem tkS_n (G : TS) (p j x : Nat) : tn (tkS G p) j x = if (45 ≤ j ∧ j ≤ 50) ∧ x = p then tn G j (p + 1) else tn G j x := by
  unfold tkS
  rw [tn_sb, tn_sr, tn_sn, tn_sn, tn_sn, tn_sn, tn_sn, tn_sn]
  by_cases q : (45 ≤ j ∧ j ≤ 50) ∧ x = p
  · rw [if_pos q]
    obtain ⟨⟨q1, q2⟩, rfl⟩ := q
    have : j = 45 ∨ j = 46 ∨ j = 47 ∨ j = 48 ∨ j = 49 ∨ j = 50 := by omega
    rcases this with rfl | rfl | rfl | rfl | rfl | rfl <;> simp
  · rw [if_neg q, if_neg (by omega), if_neg (by omega), if_neg (by omega), if_neg (by omega), if_neg (by omega), if_neg (by omega)]
theorem tkS_r (G : TS) (p j x : Nat) : tr (tkS G p) j x = if j = 51 ∧ x = p then tr G j (p + 1) else tr G j x := by
  unfold tkS
  rw [tr_sb, tr_sr]
  by_cases q : j = 51 ∧ x = p
  · rw [if_pos q, if_pos q, q.1]
  · rw [if_neg q, if_neg q]
    rfl
theorem tkS_b (G : TS) (p j x : Nat) : tb (tkS G p) j x = if j = 52 ∧ x = p then tb G j (p + 1) else tb G j x := by
  unfold tkS
  rw [tb_sb]
  by_cases q : j = 52 ∧ x = p
  · rw [if_pos q, if_pos q, q.1]
  · rw [if_neg q, if_neg q]
    rfl
theorem tkL_row (A : TS) (k : Nat) : ∀ n, (∀ j i, tn (tkL A k n) j i = if (45 ≤ j ∧ j ≤ 50) ∧ k ≤ i ∧ i < k + n then tn A j (i + 1) else tn A j i) ∧ (∀ j i, tr (tkL A k n) j i = if j = 51 ∧ k ≤ i ∧ i < k + n then tr A j (i + 1) else tr A j i) ∧ (∀ j i, tb (tkL A k n) j i = if j = 52 ∧ k ≤ i ∧ i < k + n then tb A j (i + 1) else tb A j i)
  | 0 => ⟨fun j i => by rw [if_neg (by omega)]; rfl, fun j i => by rw [if_neg (by omega)]; rfl, fun j i => by rw [if_neg (by omega)]; rfl⟩
  | n + 1 => by
    obtain ⟨h1, h2, h3⟩ := tkL_row A k n
    refine ⟨fun j i => ?_, fun j i => ?_, fun j i => ?_⟩
    · show tn (tkS (tkL A k n) (k + n)) j i = _
      rw [tkS_n]
      by_cases q : (45 ≤ j ∧ j ≤ 50) ∧ i = k + n
      · rw [if_pos q, if_pos (by omega), h1, if_neg (by omega), q.2]
      · rw [if_neg q, h1]
        by_cases y : (45 ≤ j ∧ j ≤ 50) ∧ k ≤ i ∧ i < k + n
        · rw [if_pos y, if_pos (by omega)]
        · rw [if_neg y, if_neg (by omega)]
    · show tr (tkS (tkL A k n) (k + n)) j i = _
      rw [tkS_r]
      by_cases q : j = 51 ∧ i = k + n
      · rw [if_pos q, if_pos (by omega), h2, if_neg (by omega), q.2]
      · rw [if_neg q, h2]
        by_cases y : j = 51 ∧ k ≤ i ∧ i < k + n
        · rw [if_pos y, if_pos (by omega)]
        · rw [if_neg y, if_neg (by omega)]
    · show tb (tkS (tkL A k n) (k + n)) j i = _
      rw [tkS_b]
      by_cases q : j = 52 ∧ i = k + n
      · rw [if_pos q, if_pos (by omega), h3, if_neg (by omega), q.2]
      · rw [if_neg q, h3]
        by_cases y : j = 52 ∧ k ≤ i ∧ i < k + n
        · rw [if_pos y, if_pos (by omega)]
        · rw [if_neg y, if_neg (by omega)]
theorem cpv4 (a : Nat → Nat → Nat) (A : TS) (i j : Nat) : cpv a A i 4 j = if j = 3 then opA a (tn A 48 i) else none := by
  have key : ∀ g, g = 4 → j ≠ 3 → cpv a A i g j = none := by
    intro g hg hj
    unfold cpv
    split <;> first | rfl | exact absurd hg (by decide) | exact absurd rfl hj
  by_cases y : j = 3
  · subst y; rfl
  · rw [if_neg y]
    exact key 4 rfl y
theorem rwc4 (j : Nat) : rwc 4 j = 45 ∨ rwc 4 j = 46 ∨ rwc 4 j = 47 ∨ rwc 4 j = 49 ∨ rwc 4 j = 401 ∨ rwc 4 j = 252 ∨ rwc 4 j = 999 := by
  have key : ∀ g, g = 4 → (rwc g j = 45 ∨ rwc g j = 46 ∨ rwc g j = 47 ∨ rwc g j = 49 ∨ rwc g j = 401 ∨ rwc g j = 252 ∨ rwc g j = 999) := by
    intro g hg
    unfold rwc
    split <;> first | exact absurd hg (by decide) | decide
  exact key 4 rfl
section
variable {tc : Nat → ClassId} {a a' : Nat → Nat → Nat} {A B : TS} {S S' : HS}
/-- behind k all move up by one -/
def shK (k i : Nat) : Nat := if i < k then i else i + 1
def aT (a : Nat → Nat → Nat) (f : Nat) (sh : Nat → Nat) : Nat → Nat → Nat := fun g i => if g = f then a f (sh i) else a g i
theorem aT_SE {f : Nat} {sh : Nat → Nat} (hf : f = 4 ∨ f = 8) : SE a (aT a f sh) := by
  intro g i h3 h4 h8 h23 h50
  unfold aT
  rw [if_neg (by omega)]
theorem RA.took {k : Nat} (h : RA tc a A S) (hk : k < tf A 53) : RA tc (aT a 4 (shK k)) (tkF A k) (rmS S (a 0 0) (a 23 0) k (tf A 53)) := by
  have hl0 : lv A 0 0 := Or.inl (by decide)
  have hSE : SE a (aT a 4 (shK k)) := aT_SE (by decide)
  obtain ⟨r1, r2, r3⟩ := tkL_row A k (tf A 53 - 1 - k)
  have r0 := (tkL_keep A k (tf A 53 - 1 - k)).1
  have f53 : tf (tkF A k) 53 = tf A 53 - 1 := by
    unfold tkF
    rw [r0, tf_sf, if_pos rfl]
  have fo : ∀ j, j ≠ 53 → tf (tkF A k) j = tf A j := fun j q => by
    unfold tkF
    rw [r0, tf_sf, if_neg q]
  have e1 : ∀ j i, ¬ (45 ≤ j ∧ j ≤ 50) → tn (tkF A k) j i = tn A j i := fun j i q => by
    unfold tkF
    rw [r1, if_neg (fun z => q z.1)]
  have e2 : ∀ j i, j ≠ 51 → tr (tkF A k) j i = tr A j i := fun j i q => by
    unfold tkF
    rw [r2, if_neg (fun z => q z.1)]
  have e3 : ∀ j i, j ≠ 52 → tb (tkF A k) j i = tb A j i := fun j i q => by
    unfold tkF
    rw [r3, if_neg (fun z => q z.1)]
  have g1 : ∀ j i, i < tf A 53 - 1 → 45 ≤ j → j ≤ 50 → tn (tkF A k) j i = tn A j (shK k i) := fun j i q y1 y2 => by
    unfold tkF shK
    rw [r1]
    by_cases y : i < k
    · rw [if_pos y, if_neg (by omega)]
    · rw [if_neg y, if_pos (by omega)]
  have g2 : ∀ i, i < tf A 53 - 1 → tr (tkF A k) 51 i = tr A 51 (shK k i) := fun i q => by
    unfold tkF shK
    rw [r2]
    by_cases y : i < k
    · rw [if_pos y, if_neg (by omega)]
    · rw [if_neg y, if_pos (by omega)]
  have g3 : ∀ i, i < tf A 53 - 1 → tb (tkF A k) 52 i = tb A 52 (shK k i) := fun i q => by
    unfold tkF shK
    rw [r3]
    by_cases y : i < k
    · rw [if_pos y, if_neg (by omega)]
    · rw [if_neg y, if_pos (by omega)]
  have hlB : ∀ i, lv (tkF A k) 4 i → i < tf A 53 - 1 := fun i z => by
    have z' : i < tf (tkF A k) 53 := z
    rwa [f53] at z'
  have hW := h.2.2
  have hlv : ∀ g i, g ≠ 4 → (lv (tkF A k) g i ↔ lv A g i) := fun g i q => lv_same q (fo 38 (by decide)) (fo 1 (by decide)) (fo 13 (by decide)) (fun i => e1 26 i (by decide)) (fun i => e1 37 i (by decide))
  refine RA.shr (i0 := 0) (f0 := 4) (z' := tf A 53 - 1) (shK k) h hl0 rmS_lop (own1_self h hl0 (show 0 < tf A 53 by omega)) (rmS_LX h hl0 (k := k) hk) rfl (by decide) (by decide) (fun j hj => rmS_el h hl0 (k := k) hj) hlv (fun i z => ?_) (fun i j zi zj e => ?_) (fun g i q => ?_) (fun i => ?_) (fun g i j q _ => civ_nl q fo (fun j z => e1 j i z) (fun j z => e2 j i z) (fun j z => e3 j i z)) (fun i j z => ?_) (fun g i j q _ => ?_) (fun i j z => ?_) (fun g i => ?_) (fun i k => ?_) (fun g i k _ => crv_same hSE (fun x => e1 1 x (by decide))) (fun i => ?_) ?_ (fun i k y _ _ w => ?_)
  · have := hlB i z
    show shK k i < tf A 53
    unfold shK
    split <;> omega
  · unfold shK at e
    split at e <;> split at e <;> omega
  · exact if_neg q
  · exact if_pos rfl
  · have hi := hlB i z
    unfold civ
    rcases cv_cs (rwc 4 j) with q | q | q | q | q | q | q | q
    · rw [cv_0 q, cv_0 q]
      by_cases y : 45 ≤ rwc 4 j ∧ rwc 4 j ≤ 50
      · exact congrArg nI (g1 _ i hi y.1 y.2)
      · exfalso
        have := rwc4 j
        omega
    · exfalso
      have := rwc4 j
      omega
    · have : rwc 4 j = 252 := by
        have := rwc4 j
        omega
      rw [this, cv_2 (by decide) (by decide), cv_2 (by decide) (by decide)]
      exact congrArg bI (g3 i hi)
    · exfalso
      have := rwc4 j
      omega
    · exfalso
      have := rwc4 j
      omega
    · rw [q, cv_401, cv_401, g1 45 i hi (by decide) (by decide), g1 50 i hi (by decide) (by decide), g2 i hi]
    · exfalso
      have := rwc4 j
      omega
    · rw [cv_9 q, cv_9 q]
  · exact cpv_same hSE (fun _ => e1 16 i (by decide)) (fun _ => e1 22 i (by decide)) (fun z => absurd z q) (fun _ => e1 33 i (by decide))
  · have hi := hlB i z
    rw [cpv4, cpv4, g1 48 i hi (by decide) (by decide), hSE.op]
  · unfold cln
    rw [fo 1 (by decide), fo 2 (by decide), fo 3 (by decide)]
  · unfold cav
    rw [e2 3 _ (by decide), e1 32 _ (by decide)]
  · unfold lsz
    rw [f53, fo 5 (by decide), fo 6 (by decide), e1 26 _ (by decide), e1 37 _ (by decide)]
    by_cases y : i = 0
    · rw [if_pos y, if_pos y]
    · rw [if_neg y, if_neg y, if_neg y]
  · obtain ⟨w1, ⟨w2, w3, w4, w5, w6⟩, w7, w8, w9, w10, w11, w12⟩ := hW
    refine ⟨?_, ⟨?_, ?_, ?_, ?_, ?_⟩, fun x hx => ?_, fun i hi => ?_, fun i hi => ?_, fun i hi => ?_, fun i hi => ?_, fun w k hw hk => ?_⟩
    · rw [fo 1 (by decide), fo 2 (by decide), fo 3 (by decide)]; exact w1
    · rw [fo 5 (by decide), fo 38 (by decide)]; exact w2
    · rw [fo 38 (by decide)]; exact w3
    · rw [fo 6 (by decide), fo 13 (by decide)]; exact w4
    · rw [fo 13 (by decide)]; exact w5
    · rw [f53]; omega
    · rw [fo 38 (by decide)] at hx
      rw [e1 26 _ (by decide), e1 37 _ (by decide)]; exact w7 x hx
    · rw [e1 16 _ (by decide), fo 13 (by decide)]; exact w8 i hi
    · rw [e1 22 _ (by decide), fo 13 (by decide)]; exact w9 i ((hlv 3 i (by decide)).mp hi)
    · have hi' := hlB i hi
      rw [g1 48 i hi' (by decide) (by decide), fo 13 (by decide)]
      refine w10 _ (show shK k i < tf A 53 from ?_)
      unfold shK
      split <;> omega
    · rw [e1 33 _ (by decide), fo 13 (by decide)]; exact w11 i ((hlv 8 i (by decide)).mp hi)
    · rw [fo 1 (by decide)] at hw
      rw [e1 1 _ (by decide), fo 13 (by decide)]
      exact w12 w k hw hk
  · exfalso
    unfold lfam at w
    rw [if_neg y] at w
    split at w <;> (try split at w) <;> (try split at w) <;> omega
end
