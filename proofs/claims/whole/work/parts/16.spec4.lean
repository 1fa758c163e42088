theorem shl1 : ∀ {b : Nat}, b < 31 → (nI 1) <<< (nI b &&& 31) = nI (2 ^ b) := by
  have key : ∀ b : Fin 31, (nI 1) <<< (nI b.val &&& 31) = nI (2 ^ b.val) := by decide +kernel
  exact fun {b} h => key ⟨b, h⟩
theorem nI_or (x y : Nat) : nI x ||| nI y = nI (x ||| y) := by
  unfold nI
  rw [← Int32.toBitVec_inj]
  simp [Int32.toBitVec_or, BitVec.ofNat_or]
/-! exec at a master -/
def wfL (A : TS) (e op : Nat) : Nat → Bool
  | 0 => false
  | k + 1 => wfL A e op k || decide (tn A 33 (600 * e + k) = op)
def waF (A : TS) (e op : Nat) : TS :=
  if wfL A e op (tn A 37 e) = true then synF A e
  else sn (sn (sn (sn (sn (synF A e) 33 (600 * e + tn A 37 e) op) 34 (600 * e + tn A 37 e) (tn A 26 e)) 35 (600 * e + tn A 37 e) (tn A 29 e + 1)) 36 (600 * e + tn A 37 e) 0) 37 e (tn A 37 e + 1)
theorem syn_keep (A : TS) (e : Nat) : (∀ j, j ≠ 53 → j ≠ 54 → tf (synF A e) j = tf A j) ∧ (∀ j i, j < 45 → ¬ (j = 29 ∧ i = e) → tn (synF A e) j i = tn A j i) ∧ tn (synF A e) 29 e = tn A 29 e + 1 := by
  have h := synL_keep (sn A 29 e (tn A 29 e + 1)) e (tn A 26 e) (tn A 29 e + 1) (tf A 1)
  refine ⟨fun j a b => h.1 j a b, fun j i a b => (h.2.1 j i a).trans (by rw [tn_sn, if_neg b]), (h.2.1 29 e (by decide)).trans (by rw [tn_sn, if_pos ⟨rfl, rfl⟩])⟩
theorem syn_keepB (A : TS) (e : Nat) : (∀ j i, j < 45 → tr (synF A e) j i = tr A j i) ∧ (∀ j i, j < 45 → tb (synF A e) j i = tb A j i) :=
  have h := synL_keep (sn A 29 e (tn A 29 e + 1)) e (tn A 26 e) (tn A 29 e + 1) (tf A 1)
  ⟨h.2.2.1, h.2.2.2⟩
theorem syn_le {A : TS} {e : Nat} (h : tf A 53 ≤ 250) : tf (synF A e) 53 ≤ 250 := synL_le (A := sn A 29 e (tn A 29 e + 1)) h _
theorem syn_NB {K : Nat} {A : TS} {e : Nat} (h : NB K A) (he : e ≤ K) (h9 : 9 ≤ K) (hf : tf A 1 ≤ 3) : NB (K + 5) (synF A e) := by
  have a := h.2 26 e
  have b := h.2 29 e
  exact synL_NB (K := K + 1) ((h.mono (by omega)).sn (by omega)) (by omega) (by omega) (by omega) (by omega) _ hf
def exeF (A : TS) (e op : Nat) : TS :=
  if placeF A e op ≠ 0 then
    (if placeF A e op - 1 < tn A 28 e then ansF A e op (tr A 23 (600 * e + (placeF A e op - 1))) true
     else if tb A 24 (600 * e + (placeF A e op - 1)) = true then synF A e
     else ansF A e op (tr A 23 (600 * e + (placeF A e op - 1))) false)
  else if hgF A e op (tn A 26 e) = true then A
  else if tn A 7 op = 2 then waF A e op
  else if kbF A e (tn A 8 op) (tn A 28 e) (tn A 26 e) = true then synF (appF A e op true) e
  else if tf A 4 ≤ tn A 26 e + 1 - tn A 28 e then synF (ansF (appF A e op false) e op (tr (appF A e op false) 23 (600 * e + tn A 26 e)) false) e
  else ansF (appF A e op false) e op (tr (appF A e op false) 23 (600 * e + tn A 26 e)) false
theorem app_NB {K : Nat} {A : TS} {e op : Nat} {b : Bool} (h : NB K A) (ho : op ≤ K) (hm : tn A 26 e + 1 ≤ K) : NB K (appF A e op b) := ((((h.sn ho).sr).sb).sb).sn hm
/-! letters taken out of the row -/
def tkS (A : TS) (i : Nat) : TS := sb (sr (sn (sn (sn (sn (sn (sn A 45 i (tn A 45 (i + 1))) 46 i (tn A 46 (i + 1))) 47 i (tn A 47 (i + 1))) 48 i (tn A 48 (i + 1))) 49 i (tn A 49 (i + 1))) 50 i (tn A 50 (i + 1))) 51 i (tr A 51 (i + 1))) 52 i (tb A 52 (i + 1))
def tkL (A : TS) (k : Nat) : Nat → TS
  | 0 => sf A 53 (tf A 53 - 1)
  | j + 1 => tkS (tkL A k j) (k + j)
def tkF (A : TS) (k : Nat) : TS := tkL A k (tf A 53 - 1 - k)
theorem tkL_keep (A : TS) (k : Nat) : ∀ n, (∀ j, tf (tkL A k n) j = tf (sf A 53 (tf A 53 - 1)) j) ∧ (∀ j i, j < 45 → tn (tkL A k n) j i = tn A j i) ∧ (∀ j i, j < 45 → tr (tkL A k n) j i = tr A j i) ∧ (∀ j i, j < 45 → tb (tkL A k n) j i = tb A j i)
  | 0 => ⟨fun _ => rfl, fun _ _ _ => rfl, fun _ _ _ => rfl, fun _ _ _ => rfl⟩
  | n + 1 => by
    obtain ⟨h1, h2, h3, h4⟩ := tkL_keep A k n
    refine ⟨h1, fun j i q => (?_ : tn (tkS _ _) j i = _), fun j i q => (?_ : tr (tkS _ _) j i = _), fun j i q => (?_ : tb (tkS _ _) j i = _)⟩
    · rw [← h2 j i q]
      simp only [tkS, tn_sb, tn_sr, tn_sn, show ¬ j = 45 by omega, show ¬ j = 46 by omega, show ¬ j = 47 by omega, show ¬ j = 48 by omega, show ¬ j = 49 by omega, show ¬ j = 50 by omega, false_and, if_false]
    · rw [← h3 j i q]
      simp only [tkS, tr_sb, tr_sr, tr_sn, show ¬ j = 51 by omega, false_and, if_false]
    · rw [← h4 j i q]
      simp only [tkS, tb_sb, tb_sr, tb_sn, show ¬ j = 52 by omega, false_and, if_false]
theorem tkL_NB {K : Nat} {A : TS} {k : Nat} (h : NB K A) : ∀ n, NB K (tkL A k n)
  | 0 => h.sf (by have := h.1 53; omega)
  | n + 1 => by
    have q := tkL_NB (k := k) h n
    exact ((((((((q.sn (q.2 _ _)).sn (q.2 _ _)).sn (q.2 _ _)).sn (q.2 _ _)).sn (q.2 _ _)).sn (q.2 _ _)).sr).sb)
/-! a letter at a client -/
def rcC (A : TS) (c op : Nat) (B : TS) : TS := if tb B 19 c = true ∧ tn A 7 op ≠ 2 ∧ tn B 18 c = 2 ^ tf A 1 - 1 then sn (endF B c (tr B 20 c)) 21 c (tn A 21 c + 1) else B
def rcF (A : TS) (so e op w : Nat) (v : Int32) (b : Bool) : TS :=
  if tn A 17 (tn A 5 op) ≠ e ∨ tn A 16 (tn A 5 op) ≠ op + 1 ∨ opnF A (tn A 5 op) = false then A
  else if so = 4 then sendOpF A 5 e (tn A 5 op) op
  else if so = 3 then rcC A (tn A 5 op) op (sn A 18 (tn A 5 op) (tn A 18 (tn A 5 op) ||| 2 ^ w))
  else if b = true then endF (sr (sb A 19 (tn A 5 op) true) 20 (tn A 5 op) v) (tn A 5 op) v
  else rcC A (tn A 5 op) op (sr (sb A 19 (tn A 5 op) true) 20 (tn A 5 op) v)
theorem ans_keep (A : TS) (e op : Nat) (v : Int32) (b : Bool) : keepL A (ansF A e op v b) := send_keep ..
