/-! ===== the class's heap: what it holds of the typed state; a g i: the address of the i-th thing of class g (20 and on: arrays; 0: lists; 23, 50: a list's array and its places) ===== -/
def mx (ax ay : Nat → Nat → Nat) : Nat → Nat → Nat
  | 4 => ay 4
  | 8 => ay 8
  | 23 => ay 23
  | 50 => ay 50
  | g => ax g
def lv (A : TS) : Nat → Nat → Prop
  | 0, i => i < 3 ∨ (3 ≤ i ∧ i < 3 + tf A 38 ∧ i < 15) ∨ (15 ≤ i ∧ i < 15 + tf A 38)
  | 1, i => i < tf A 1
  | 2, i => i < 4
  | 3, i => i / 600 < tf A 38 ∧ i % 600 < tn A 26 (i / 600)
  | 4, i => i < tf A 53
  | 5, i => i < tf A 38
  | 6, i => i < tf A 13
  | 7, i => i = 0
  | 8, i => i / 600 < tf A 38 ∧ i % 600 < tn A 37 (i / 600)
  | 9, i => i < tf A 1
  | 10, i => i = 0
  | 20, i => i < 2 * tf A 38
  | 24, i => i = 0
  | 25, i => i = 0
  | 26, i => i = 0
  | 27, i => i < tf A 1
  | _, _ => False
/-- by class and place of a field: which row of the state it shows (+ 0 a number, + 100 an int, + 200 a truth, + 300 a single number) -/
def rwc (g j : Nat) : Nat :=
  match g, j with
  | 1, 0 => 400 | 1, 1 => 39 | 1, 2 => 40
  | 2, 0 => 17 | 2, 2 => 18 | 2, 3 => 219 | 2, 4 => 101 | 2, 5 => 21
  | 3, 1 => 123 | 3, 2 => 224 | 3, 3 => 225
  | 4, 0 => 45 | 4, 1 => 46 | 4, 2 => 47 | 4, 4 => 49 | 4, 5 => 401 | 4, 6 => 252
  | 5, 0 => 400 | 5, 1 => 304 | 5, 7 => 230 | 5, 8 => 231 | 5, 9 => 27 | 5, 10 => 28 | 5, 11 => 29
  | 6, 0 => 5 | 6, 1 => 6 | 6, 2 => 7 | 6, 3 => 8 | 6, 4 => 109 | 6, 5 => 10 | 6, 6 => 402 | 6, 7 => 112
  | 7, 1 => 354
  | 8, 1 => 34 | 8, 2 => 102 | 8, 3 => 35 | 8, 4 => 36
  | 9, 0 => 400 | 9, 1 => 302 | 9, 2 => 303 | 9, 4 => 41 | 9, 5 => 242
  | 10, 0 => 302 | 10, 1 => 303 | 10, 2 => 304 | 10, 9 => 315 | 10, 10 => 314
  | _, _ => 999
def cv (A : TS) (c i : Nat) : Int32 :=
  if c < 100 then nI (tn A c i) else if c < 200 then tr A (c - 100) i else if c < 300 then bI (tb A (c - 200) i) else if c < 400 then nI (tf A (c - 300))
  else if c = 400 then nI i else if c = 401 then (if tn A 45 i = 2 then tr A 51 i else nI (tn A 50 i)) else if c = 402 then nI (tn A 11 i - 1) else 0
def civ (A : TS) (i g j : Nat) : Int32 := cv A (rwc g j) i
/-- an operation's address; 0: none -/
def opA (a : Nat → Nat → Nat) (t : Nat) : Option Nat := if t = 0 then none else some (a 6 (t - 1))
def cpv (a : Nat → Nat → Nat) (A : TS) (i g j : Nat) : Option Nat :=
  match g, j with
  | 2, 1 => opA a (tn A 16 i)
  | 3, 0 => some (a 6 (tn A 22 i))
  | 4, 3 => opA a (tn A 48 i)
  | 5, 2 => some (a 7 0) | 5, 3 => some (a 0 (3 + i)) | 5, 4 => some (a 0 (15 + i)) | 5, 5 => some (a 20 (2 * i)) | 5, 6 => some (a 20 (2 * i + 1))
  | 7, 0 => some (a 0 0)
  | 8, 0 => some (a 6 (tn A 33 i))
  | 9, 3 => some (a 27 i)
  | 10, 3 => some (a 7 0) | 10, 4 => some (a 24 0) | 10, 5 => some (a 25 0) | 10, 6 => some (a 26 0) | 10, 7 => some (a 0 1) | 10, 8 => some (a 0 2)
  | _, _ => none
def cln (A : TS) (g i : Nat) : Nat := if g = 20 then (if i % 2 = 0 then 16 else tf A 1) else if g = 24 then 4 else if g = 27 then tf A 2 * tf A 3 else tf A 1
def cav (A : TS) (i k : Nat) : Int32 := if i % 2 = 0 then tr A 3 (16 * (i / 2) + k) else oI (tn A 32 (3 * (i / 2) + k))
def crv (a : Nat → Nat → Nat) (A : TS) (g i k : Nat) : Option Nat := if g = 24 then some (a 2 k) else if g = 25 then some (a 1 k) else if g = 26 then some (a 9 k) else opA a (tn A 1 (16 * i + k))
def lsz (A : TS) (i : Nat) : Nat := if i = 0 then tf A 53 else if i = 1 then tf A 5 else if i = 2 then tf A 6 else if i < 15 then tn A 26 (i - 3) else tn A 37 (i - 15)
def lfam (i : Nat) : Nat := if i = 0 then 4 else if i = 1 then 5 else if i = 2 then 6 else if i < 15 then 3 else 8
def lix (i k : Nat) : Nat := if i < 3 then k else if i < 15 then 600 * (i - 3) + k else 600 * (i - 15) + k
/-- the objects and the arrays that are not a list's -/
def RO (a : Nat → Nat → Nat) (A : TS) (S : HS) : Prop :=
  (∀ g i, lv A g i → a g i ∈ zL S ∧ zK S (a g i) = g) ∧
  (∀ g i j, g ≠ 4 → lv A g i → lv A g j → a g i = a g j → i = j) ∧
  (∀ g i j, lv A g i → 1 ≤ g → g < 20 → (fty g)[j]? = some true → zI S (64 * g + j) (a g i) = civ A i g j) ∧
  (∀ g i j, lv A g i → 1 ≤ g → g < 20 → (fty g)[j]? = some false → zP S (64 * g + j) (a g i) = cpv a A i g j) ∧
  (∀ g i, lv A g i → 20 ≤ g → zN S (a g i) = cln A g i) ∧
  (∀ i k, lv A 20 i → k < cln A 20 i → zA S (a 20 i) k = cav A i k) ∧
  (∀ g i k, lv A g i → 24 ≤ g → k < cln A g i → zR S (a g i) k = crv a A g i k)
/-- the lists -/
def RLs (tc : Nat → ClassId) (a : Nat → Nat → Nat) (A : TS) (S : HS) : Prop :=
  (∀ i, lv A 0 i → LX tc S (a 0 i) (a 23 i) (a 50 i) (lsz A i) ∧ ∀ k, k < lsz A i → zR S (a 23 i) k = some (a (lfam i) (lix i k))) ∧
  (∀ i j, lv A 0 i → lv A 0 j → a 50 i ≠ 0 → a 50 j ≠ 0 → a 23 i = a 23 j → i = j)
/-- what is referred to is there -/
def WF (A : TS) : Prop :=
  (1 ≤ tf A 1 ∧ tf A 1 ≤ 3 ∧ 1 ≤ tf A 2 ∧ tf A 2 ≤ 4 ∧ 1 ≤ tf A 3 ∧ tf A 3 ≤ 4) ∧ (tf A 5 ≤ tf A 38 ∧ tf A 38 ≤ 12 ∧ tf A 6 ≤ tf A 13 ∧ tf A 13 ≤ 600 ∧ tf A 53 ≤ 250) ∧
  (∀ e, e < tf A 38 → tn A 26 e ≤ 600 ∧ tn A 37 e ≤ 600) ∧ (∀ i, i < 4 → tn A 16 i ≤ tf A 13) ∧ (∀ i, lv A 3 i → tn A 22 i < tf A 13) ∧ (∀ i, lv A 4 i → tn A 48 i ≤ tf A 13) ∧
  (∀ i, lv A 8 i → tn A 33 i < tf A 13) ∧ (∀ w k, w < tf A 1 → k < 16 → tn A 1 (16 * w + k) ≤ tf A 13)
def RA (tc : Nat → ClassId) (a : Nat → Nat → Nat) (A : TS) (S : HS) : Prop := RO a A S ∧ RLs tc a A S ∧ WF A
abbrev RepC (tc : Nat → ClassId) (ax ay : Nat → Nat → Nat) (A : TS) (S : HS) : Prop := RA tc (mx ax ay) A S
section
variable {tc : Nat → ClassId} {ax ay : Nat → Nat → Nat} {a : Nat → Nat → Nat} {A : TS} {S : HS}
theorem RA.mem (h : RA tc a A S) {g i : Nat} (hl : lv A g i) : a g i ∈ zL S := (h.1.1 g i hl).1
theorem RA.knd (h : RA tc a A S) {g i : Nat} (hl : lv A g i) : zK S (a g i) = g := (h.1.1 g i hl).2
theorem RA.inj (h : RA tc a A S) {g i j : Nat} (h4 : g ≠ 4) (hl : lv A g i) (hj : lv A g j) (e : a g i = a g j) : i = j := h.1.2.1 g i j h4 hl hj e
theorem RA.int (h : RA tc a A S) {g i j : Nat} (hl : lv A g i) (h1 : 1 ≤ g) (h2 : g < 20) (hj : (fty g)[j]? = some true) : zI S (64 * g + j) (a g i) = civ A i g j := h.1.2.2.1 g i j hl h1 h2 hj
theorem RA.ptr (h : RA tc a A S) {g i j : Nat} (hl : lv A g i) (h1 : 1 ≤ g) (h2 : g < 20) (hj : (fty g)[j]? = some false) : zP S (64 * g + j) (a g i) = cpv a A i g j := h.1.2.2.2.1 g i j hl h1 h2 hj
theorem RA.len (h : RA tc a A S) {g i : Nat} (hl : lv A g i) (h1 : 20 ≤ g) : zN S (a g i) = cln A g i := h.1.2.2.2.2.1 g i hl h1
theorem RA.arr (h : RA tc a A S) {i k : Nat} (hl : lv A 20 i) (hk : k < cln A 20 i) : zA S (a 20 i) k = cav A i k := h.1.2.2.2.2.2.1 i k hl hk
theorem RA.ref (h : RA tc a A S) {g i k : Nat} (hl : lv A g i) (h1 : 24 ≤ g) (hk : k < cln A g i) : zR S (a g i) k = crv a A g i k := h.1.2.2.2.2.2.2 g i k hl h1 hk
theorem RA.list (h : RA tc a A S) {i : Nat} (hl : lv A 0 i) : LX tc S (a 0 i) (a 23 i) (a 50 i) (lsz A i) := (h.2.1.1 i hl).1
theorem RA.elem (h : RA tc a A S) {i k : Nat} (hl : lv A 0 i) (hk : k < lsz A i) : zR S (a 23 i) k = some (a (lfam i) (lix i k)) := (h.2.1.1 i hl).2 k hk
theorem RA.wf (h : RA tc a A S) : WF A := h.2.2
end
/-! a cell of the state is written -/
theorem cv_0 {A : TS} {c i : Nat} (h : c < 100) : cv A c i = nI (tn A c i) := if_pos h
theorem cv_1 {A : TS} {c i : Nat} (h : 100 ≤ c) (k : c < 200) : cv A c i = tr A (c - 100) i := by
  unfold cv
  rw [if_neg (by omega), if_pos k]
theorem cv_2 {A : TS} {c i : Nat} (h : 200 ≤ c) (k : c < 300) : cv A c i = bI (tb A (c - 200) i) := by
  unfold cv
  rw [if_neg (by omega), if_neg (by omega), if_pos k]
theorem cv_3 {A : TS} {c i : Nat} (h : 300 ≤ c) (k : c < 400) : cv A c i = nI (tf A (c - 300)) := by
  unfold cv
  rw [if_neg (by omega), if_neg (by omega), if_neg (by omega), if_pos k]
theorem cv_400 {A : TS} {i : Nat} : cv A 400 i = nI i := rfl
theorem cv_401 {A : TS} {i : Nat} : cv A 401 i = if tn A 45 i = 2 then tr A 51 i else nI (tn A 50 i) := rfl
theorem cv_402 {A : TS} {i : Nat} : cv A 402 i = nI (tn A 11 i - 1) := rfl
theorem cv_9 {A : TS} {c i : Nat} (h : 403 ≤ c) : cv A c i = 0 := by
  unfold cv
  rw [if_neg (by omega), if_neg (by omega), if_neg (by omega), if_neg (by omega), if_neg (by omega), if_neg (by omega), if_neg (by omega)]
theorem cv_cs (c : Nat) : c < 100 ∨ (100 ≤ c ∧ c < 200) ∨ (200 ≤ c ∧ c < 300) ∨ (300 ≤ c ∧ c < 400) ∨ c = 400 ∨ c = 401 ∨ c = 402 ∨ 403 ≤ c := by omega
/-- two states that agree on a cell's rows -/
theorem cv_same {A B : TS} {c i : Nat} (h0 : c < 100 → tn B c i = tn A c i) (h1 : 100 ≤ c → c < 200 → tr B (c - 100) i = tr A (c - 100) i) (h2 : 200 ≤ c → c < 300 → tb B (c - 200) i = tb A (c - 200) i) (h3 : 300 ≤ c → c < 400 → tf B (c - 300) = tf A (c - 300)) (h4 : c = 401 → tn B 45 i = tn A 45 i ∧ tr B 51 i = tr A 51 i ∧ tn B 50 i = tn A 50 i) (h5 : c = 402 → tn B 11 i = tn A 11 i) : cv B c i = cv A c i := by
  rcases cv_cs c with q | q | q | q | q | q | q | q
  · rw [cv_0 q, cv_0 q, h0 q]
  · rw [cv_1 q.1 q.2, cv_1 q.1 q.2, h1 q.1 q.2]
  · rw [cv_2 q.1 q.2, cv_2 q.1 q.2, h2 q.1 q.2]
  · rw [cv_3 q.1 q.2, cv_3 q.1 q.2, h3 q.1 q.2]
  · subst q; rw [cv_400, cv_400]
  · obtain ⟨a, b, d⟩ := h4 q
    subst q
    rw [cv_401, cv_401, a, b, d]
  · have := h5 q
    subst q
    rw [cv_402, cv_402, this]
  · rw [cv_9 q, cv_9 q]
theorem cv_sn {A : TS} {r x v c i : Nat} (hr : r < 100) (h1 : r ≠ 11) (h2 : r ≠ 45) (h3 : r ≠ 50) : cv (sn A r x v) c i = if c = r ∧ i = x then nI v else cv A c i := by
  by_cases q : c = r ∧ i = x
  · rw [if_pos q, cv_0 (by omega), tn_sn, if_pos q]
  · rw [if_neg q]
    exact cv_same (fun _ => by rw [tn_sn, if_neg q]) (fun _ _ => rfl) (fun _ _ => rfl) (fun _ _ => rfl) (fun _ => ⟨by rw [tn_sn, if_neg (by omega)], rfl, by rw [tn_sn, if_neg (by omega)]⟩) (fun _ => by rw [tn_sn, if_neg (by omega)])
theorem cv_s11 {A : TS} {x v c i : Nat} (hc : c ≠ 11) : cv (sn A 11 x v) c i = if c = 402 ∧ i = x then nI (v - 1) else cv A c i := by
  by_cases q : c = 402 ∧ i = x
  · obtain ⟨rfl, rfl⟩ := q
    rw [if_pos ⟨rfl, rfl⟩, cv_402, tn_sn, if_pos ⟨rfl, rfl⟩]
  · rw [if_neg q]
    exact cv_same (fun _ => by rw [tn_sn, if_neg (by omega)]) (fun _ _ => rfl) (fun _ _ => rfl) (fun _ _ => rfl) (fun _ => ⟨by rw [tn_sn, if_neg (by omega)], rfl, by rw [tn_sn, if_neg (by omega)]⟩) (fun y => by rw [tn_sn, if_neg (fun z => q ⟨y, z.2⟩)])
theorem cv_sr {A : TS} {r x c i : Nat} {v : Int32} (hr : r < 100) (h1 : r ≠ 51) : cv (sr A r x v) c i = if c = 100 + r ∧ i = x then v else cv A c i := by
  by_cases q : c = 100 + r ∧ i = x
  · rw [if_pos q, cv_1 (by omega) (by omega), tr_sr, if_pos (by omega)]
  · rw [if_neg q]
    exact cv_same (fun _ => rfl) (fun _ _ => by rw [tr_sr, if_neg (by omega)]) (fun _ _ => rfl) (fun _ _ => rfl) (fun _ => ⟨rfl, by rw [tr_sr, if_neg (by omega)], rfl⟩) (fun _ => rfl)
theorem cv_sb {A : TS} {r x c i : Nat} {v : Bool} (hr : r < 100) : cv (sb A r x v) c i = if c = 200 + r ∧ i = x then bI v else cv A c i := by
  by_cases q : c = 200 + r ∧ i = x
  · rw [if_pos q, cv_2 (by omega) (by omega), tb_sb, if_pos (by omega)]
  · rw [if_neg q]
    exact cv_same (fun _ => rfl) (fun _ _ => rfl) (fun _ _ => by rw [tb_sb, if_neg (by omega)]) (fun _ _ => rfl) (fun _ => ⟨rfl, rfl, rfl⟩) (fun _ => rfl)
theorem cv_sf {A : TS} {r v c i : Nat} (hr : r < 100) : cv (sf A r v) c i = if c = 300 + r then nI v else cv A c i := by
  by_cases q : c = 300 + r
  · rw [if_pos q, cv_3 (by omega) (by omega), tf_sf, if_pos (by omega)]
  · rw [if_neg q]
    exact cv_same (fun _ => rfl) (fun _ _ => rfl) (fun _ _ => rfl) (fun _ _ => by rw [tf_sf, if_neg (by omega)]) (fun _ => ⟨rfl, rfl, rfl⟩) (fun _ => rfl)
/-- all but the numbers' fields is as it was -/
def CE (A B : TS) : Prop := (∀ g i, lv B g i ↔ lv A g i) ∧ (∀ a i g j, cpv a B i g j = cpv a A i g j) ∧ (∀ g i, cln B g i = cln A g i) ∧ (∀ i k, cav B i k = cav A i k) ∧ (∀ a g i k, crv a B g i k = crv a A g i k) ∧ (∀ i, lsz B i = lsz A i) ∧ (WF A → WF B)
theorem CE_of {A B : TS} (h1 : ∀ j, j = 1 ∨ j = 2 ∨ j = 3 ∨ j = 13 ∨ j = 38 ∨ j = 53 ∨ j = 5 ∨ j = 6 → tf B j = tf A j) (h2 : ∀ j i, j = 16 ∨ j = 22 ∨ j = 26 ∨ j = 32 ∨ j = 33 ∨ j = 37 ∨ j = 48 ∨ j = 1 → tn B j i = tn A j i) (h3 : ∀ i, tr B 3 i = tr A 3 i) : CE A B := by
  have f1 : tf B 1 = tf A 1 := h1 1 (by decide)
  have f2 : tf B 2 = tf A 2 := h1 2 (by decide)
  have f3 : tf B 3 = tf A 3 := h1 3 (by decide)
  have f13 : tf B 13 = tf A 13 := h1 13 (by decide)
  have f38 : tf B 38 = tf A 38 := h1 38 (by decide)
  have f53 : tf B 53 = tf A 53 := h1 53 (by decide)
  have f60 : tf B 5 = tf A 5 := h1 5 (by decide)
  have f61 : tf B 6 = tf A 6 := h1 6 (by decide)
  have e16 : ∀ i, tn B 16 i = tn A 16 i := fun i => h2 16 i (by decide)
  have e22 : ∀ i, tn B 22 i = tn A 22 i := fun i => h2 22 i (by decide)
  have e26 : ∀ i, tn B 26 i = tn A 26 i := fun i => h2 26 i (by decide)
  have e32 : ∀ i, tn B 32 i = tn A 32 i := fun i => h2 32 i (by decide)
  have e33 : ∀ i, tn B 33 i = tn A 33 i := fun i => h2 33 i (by decide)
  have e37 : ∀ i, tn B 37 i = tn A 37 i := fun i => h2 37 i (by decide)
  have e48 : ∀ i, tn B 48 i = tn A 48 i := fun i => h2 48 i (by decide)
  have e62 : ∀ i, tn B 1 i = tn A 1 i := fun i => h2 1 i (by decide)
  refine ⟨fun g i => ?_, fun a i g j => ?_, fun g i => ?_, fun i k => ?_, fun a g i k => ?_, fun i => ?_, fun hW => ?_⟩
  · simp only [lv, f1, f13, f38, f53, e26, e37]
  · simp only [cpv, e16, e22, e33, e48]
  · simp only [cln, f1, f2, f3]
  · simp only [cav, h3, e32]
  · simp only [crv, e62]
  · simp only [lsz, f53, f60, f61, e26, e37]
  · simpa only [WF, lv, f1, f2, f3, f13, f38, f53, f60, f61, e16, e22, e26, e33, e37, e48, e62] using hW
