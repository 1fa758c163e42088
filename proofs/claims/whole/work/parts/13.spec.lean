/-! ===== what the reference's methods do, as functions of the typed state ===== -/
theorem oI_pos {t : Nat} (h : t ≠ 0) : Value.int (nI (t - 1)) = Value.int (oI t) := by
  obtain ⟨u, rfl⟩ : ∃ u, t = u + 1 := ⟨t - 1, by omega⟩
  rw [oI_s]
  rfl
def noIx (x : Int32) (n : Nat) : Bool := decide (x < 0) || decide (nI n ≤ x)
theorem i32_le {x y : Int32} : x ≤ y ↔ ¬ y < x := by rw [Int32.le_iff_toInt_le, Int32.lt_iff_toInt_lt]; omega
theorem noIx_1 {x : Int32} {n : Nat} (h : x < 0) : noIx x n = true := by simp [noIx, h]
theorem noIx_2 {x : Int32} {n : Nat} (h : ¬ x < 0) (k : x < nI n) : noIx x n = false := by
  have : ¬ nI n ≤ x := fun q => (i32_le.mp q) k
  simp [noIx, h, this]
theorem noIx_3 {x : Int32} {n : Nat} (k : ¬ x < nI n) : noIx x n = true := by
  have : nI n ≤ x := i32_le.mpr k
  simp [noIx, this]
theorem noIx_t {x : Int32} {n : Nat} (hn : n < 2 ^ 31) (h : noIx x n = false) : ∃ j : Nat, j < n ∧ x = nI j := by
  simp only [noIx, Bool.or_eq_false_iff, decide_eq_false_iff_not] at h
  rcases pk_ix x hn with q | q | q
  · exact absurd q h.1
  · exact absurd q h.2
  · exact q
def opnF (A : TS) (c : Nat) : Bool := decide (tn A 16 c ≠ 0 ∧ tn A 11 (tn A 16 c - 1) = 0)
def vaF (A : TS) (e key : Nat) : Nat → Int32
  | 0 => nI 0
  | k + 1 => if tn A 8 (tn A 22 (600 * e + k)) = key then (if tn A 7 (tn A 22 (600 * e + k)) = 0 then tr A 9 (tn A 22 (600 * e + k)) else vaF A e key k + tr A 9 (tn A 22 (600 * e + k))) else vaF A e key k
def kbF (A : TS) (e key s : Nat) : Nat → Bool
  | 0 => false
  | k + 1 => kbF A e key s k || (decide (s ≤ k) && decide (tn A 8 (tn A 22 (600 * e + k)) = key))
theorem kbF_0 (A : TS) (e key s : Nat) : ∀ k, k ≤ s → kbF A e key s k = false
  | 0, _ => rfl
  | k + 1, h => by
    simp only [kbF, kbF_0 A e key s k (by omega), show ¬ s ≤ k by omega, decide_false, Bool.false_and, Bool.or_false]
def hgF (A : TS) (e op : Nat) : Nat → Bool
  | 0 => false
  | k + 1 => hgF A e op k || (decide (tn A 5 (tn A 22 (600 * e + k)) = tn A 5 op) && decide (tn A 6 op < tn A 6 (tn A 22 (600 * e + k))))
def sendF (A : TS) (so e to op n c : Nat) (v : Int32) (b : Bool) : TS :=
  if tf A 53 = 250 then sf A 54 (tf A 54 + 1)
  else sf (sb (sr (sn (sn (sn (sn (sn (sn A 45 (tf A 53) so) 46 (tf A 53) e) 47 (tf A 53) to) 48 (tf A 53) op) 49 (tf A 53) n) 50 (tf A 53) c) 51 (tf A 53) v) 52 (tf A 53) b) 53 (tf A 53 + 1)
/-- of an operation: kind, epoch, to whom -/
def sendOpF (A : TS) (so e to op : Nat) : TS := sendF A so e to (op + 1) (tn A 6 op) 0 (nI 0) false
def ansF (A : TS) (e op : Nat) (v : Int32) (b : Bool) : TS := sendF A 2 e (tn A 5 op) (op + 1) (tn A 6 op) 0 v b
def synL (A : TS) (e n c : Nat) : Nat → TS
  | 0 => A
  | b + 1 => sendF (synL A e n c b) 6 e b 0 n c (nI 0) false
def synF (A : TS) (e : Nat) : TS := synL (sn A 29 e (tn A 29 e + 1)) e (tn A 26 e) (tn A 29 e + 1) (tf A 1)
def resL (A : TS) (e : Nat) : Nat → TS
  | 0 => A
  | b + 1 => sendF (resL A e b) 9 e b 0 0 0 (nI 0) false
def resF (A : TS) (e : Nat) : TS := resL A e (tf A 1)
def appF (A : TS) (e op : Nat) (late : Bool) : TS :=
  sn (sb (sb (sr (sn A 22 (600 * e + tn A 26 e) op) 23 (600 * e + tn A 26 e) (if tn A 7 op = 0 then vaF A e (tn A 8 op) (tn A 26 e) else vaF A e (tn A 8 op) (tn A 26 e) + tr A 9 op)) 24 (600 * e + tn A 26 e) late) 25 (600 * e + tn A 26 e) false) 26 e (tn A 26 e + 1)
/-- what a letter leaves as it was: all but the rows of letters, their number, the number of the lost -/
def keepL (A B : TS) : Prop := (∀ j, j ≠ 53 → j ≠ 54 → tf B j = tf A j) ∧ (∀ j i, j < 45 → tn B j i = tn A j i) ∧ (∀ j i, j < 45 → tr B j i = tr A j i) ∧ (∀ j i, j < 45 → tb B j i = tb A j i)
theorem keepL.rfl {A : TS} : keepL A A := ⟨fun _ _ _ => Eq.refl _, fun _ _ _ => Eq.refl _, fun _ _ _ => Eq.refl _, fun _ _ _ => Eq.refl _⟩
theorem keepL.trans {A B C : TS} (h : keepL A B) (k : keepL B C) : keepL A C := ⟨fun j a b => (k.1 j a b).trans (h.1 j a b), fun j i a => (k.2.1 j i a).trans (h.2.1 j i a), fun j i a => (k.2.2.1 j i a).trans (h.2.2.1 j i a), fun j i a => (k.2.2.2 j i a).trans (h.2.2.2 j i a)⟩
theorem send_keep (A : TS) (so e to op n c : Nat) (v : Int32) (b : Bool) : keepL A (sendF A so e to op n c v b) := by
  unfold sendF
  split
  · exact ⟨fun j a q => by rw [tf_sf, if_neg q], fun _ _ _ => rfl, fun _ _ _ => rfl, fun _ _ _ => rfl⟩
  · refine ⟨fun j a q => by rw [tf_sf, if_neg a]; rfl, fun j i q => ?_, fun j i q => ?_, fun j i q => ?_⟩
    · simp only [tn_sf, tn_sb, tn_sr, tn_sn, show ¬ j = 45 by omega, show ¬ j = 46 by omega, show ¬ j = 47 by omega, show ¬ j = 48 by omega, show ¬ j = 49 by omega, show ¬ j = 50 by omega, false_and, if_false]
    · simp only [tr_sf, tr_sb, tr_sr, tr_sn, show ¬ j = 51 by omega, false_and, if_false]
    · simp only [tb_sf, tb_sb, tb_sr, tb_sn, show ¬ j = 52 by omega, false_and, if_false]
theorem synL_keep (A : TS) (e n c : Nat) : ∀ b, keepL A (synL A e n c b)
  | 0 => keepL.rfl
  | b + 1 => (synL_keep A e n c b).trans (send_keep ..)
theorem resL_keep (A : TS) (e : Nat) : ∀ b, keepL A (resL A e b)
  | 0 => keepL.rfl
  | b + 1 => (resL_keep A e b).trans (send_keep ..)
/-- the row of letters: at most 250 -/
theorem send_le {A : TS} (so e to op n c : Nat) (v : Int32) (b : Bool) (h : tf A 53 ≤ 250) : tf (sendF A so e to op n c v b) 53 ≤ 250 := by
  unfold sendF
  split
  · exact h
  · rw [tf_sf, if_pos rfl]; omega
theorem synL_le {A : TS} {e n c : Nat} (h : tf A 53 ≤ 250) : ∀ b, tf (synL A e n c b) 53 ≤ 250
  | 0 => h
  | b + 1 => send_le _ _ _ _ _ _ _ _ (synL_le h b)
theorem resL_le {A : TS} {e : Nat} (h : tf A 53 ≤ 250) : ∀ b, tf (resL A e b) 53 ≤ 250
  | 0 => h
  | b + 1 => send_le _ _ _ _ _ _ _ _ (resL_le h b)
theorem NB.send {K K' : Nat} {A : TS} {so e to op n c : Nat} {v : Int32} {b : Bool} (h : NB K A) (hK : K + 1 ≤ K') (h1 : so ≤ K') (h2 : e ≤ K') (h3 : to ≤ K') (h4 : op ≤ K') (h5 : n ≤ K') (h6 : c ≤ K') : NB K' (sendF A so e to op n c v b) := by
  have a := h.1 53
  have b := h.1 54
  have h' := h.mono (K' := K') (by omega)
  unfold sendF
  split
  · exact h'.sf (by omega)
  · exact (((((((((h'.sn h1).sn h2).sn h3).sn h4).sn h5).sn h6).sr).sb).sf (by omega))
