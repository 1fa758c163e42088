/-! ===== deciding a new master; delivering a letter; the audit ===== -/
def dcS (e f k : Nat) (G : TS) : TS := sr (sn G 22 (600 * e + k) (tn G 22 (600 * f + k))) 23 (600 * e + k) (tr G 23 (600 * f + k))
def dcL (A : TS) (e f : Nat) : Nat → TS
  | 0 => A
  | k + 1 => dcS e f k (dcL A e f k)
theorem dcL_keep (A : TS) (e f : Nat) : ∀ k, (∀ j, tf (dcL A e f k) j = tf A j) ∧ (∀ j i, j ≠ 22 → tn (dcL A e f k) j i = tn A j i) ∧ (∀ j i, j ≠ 23 → tr (dcL A e f k) j i = tr A j i) ∧ (∀ j i, tb (dcL A e f k) j i = tb A j i)
  | 0 => ⟨fun _ => rfl, fun _ _ _ => rfl, fun _ _ _ => rfl, fun _ _ => rfl⟩
  | k + 1 => by
    obtain ⟨h1, h2, h3, h4⟩ := dcL_keep A e f k
    refine ⟨h1, fun j i q => ?_, fun j i q => ?_, h4⟩
    · show tn (sn _ 22 _ _) j i = _
      rw [tn_sn, if_neg (fun z => q z.1)]
      exact h2 j i q
    · show tr (sr _ 23 _ _) j i = _
      rw [tr_sr, if_neg (fun z => q z.1)]
      exact h3 j i q
theorem dcL_NB {K : Nat} {A : TS} {e f : Nat} (h : NB K A) : ∀ k, NB K (dcL A e f k)
  | 0 => h
  | k + 1 => ((dcL_NB h k).sn ((dcL_NB h k).2 _ _)).sr
theorem ri_NB {K : Nat} {A : TS} {e : Nat} (h : NB K A) (he : e + 1 ≤ K) : NB K (riF A e) := by
  have key : ∀ b, NB K (riL A e b) := by
    intro b
    induction b with
    | zero => exact h.sb
    | succ b ih => exact ih.sn (by omega)
  exact (key 3).sf he
theorem ri_keep (A : TS) (e : Nat) : (∀ j, j ≠ 38 → tf (riF A e) j = tf A j) ∧ (∀ j i, j ≠ 32 → tn (riF A e) j i = tn A j i) := by
  refine ⟨fun j q => ?_, fun j i q => ?_⟩
  · unfold riF
    rw [tf_sf, if_neg q]
    exact (riL_keep A e 3).1 j
  · exact (riL_keep A e 3).2 j i q
def decD (A : TS) (e b : Nat) : TS := sn (dcL (riF A e) e (tn A 39 b) (tn A 40 b)) 26 e (tn A 40 b)
def decR (A : TS) (e b w : Nat) : TS := rpF (decD A e b) e w
def decF (A : TS) (e b w : Nat) : TS := sb (sn (sn (sn (decR A e b w) 27 e (tn (decR A e b w) 26 e)) 39 b e) 41 w e) 42 w true
def dlvS (A : TS) (k : Nat) : Nat → TS
  | 0 => if tb (tkF A k) 30 (tn A 46 k) = true then exeF (tkF A k) (tn A 46 k) (tn A 48 k - 1) else tkF A k
  | 1 => recF (tkF A k) (tn A 47 k) (tn A 46 k) (tn A 48 k - 1)
  | 5 => if tb (tkF A k) 30 (tn A 46 k) = true then snowF (tkF A k) (tn A 46 k) (tn A 48 k - 1) else tkF A k
  | 6 => rsynF (tkF A k) (tn A 47 k) (tn A 46 k) (tn A 49 k) (tn A 50 k)
  | 7 => if tb (tkF A k) 30 (tn A 46 k) = true then ackF (tkF A k) (tn A 46 k) (tn A 47 k) (tn A 49 k) (tn A 50 k) else tkF A k
  | 8 => gcF (tkF A k) (tn A 47 k) (tn A 46 k) (tn A 49 k)
  | 9 => rstF (tkF A k) (tn A 47 k) (tn A 46 k)
  | s => rcF (tkF A k) s (tn A 46 k) (tn A 48 k - 1) (tn A 50 k) (tr A 51 k) (tb A 52 k)
def onL (A : TS) (e : Nat) : Nat → Bool
  | 0 => true
  | k + 1 => onL A e k && decide (placeF A e (tn A 22 (600 * e + k)) = k + 1)
def ibS (A : TS) (e a b : Nat) (x : Bool) : Bool := if tn A 7 b ≠ 2 ∧ tn A 8 b = tn A 8 a ∧ tn A 11 a ≤ tn A 10 b then decide (placeF A e b = 0 ∨ placeF A e a < placeF A e b) else x
def ibL (A : TS) (e a : Nat) (x : Bool) : Nat → Bool
  | 0 => x
  | b + 1 => if ibL A e a x b = true then ibS A e a b true else false
theorem ibL_false {A : TS} {e a : Nat} {x : Bool} {k : Nat} (h : ibL A e a x k = false) : ∀ n, k ≤ n → ibL A e a x n = false
  | 0, hn => by rw [show (0 : Nat) = k by omega]; exact h
  | n + 1, hn => by
    rcases Nat.lt_or_ge n k with q | q
    · rw [show n + 1 = k by omega]; exact h
    · unfold ibL
      rw [ibL_false h n q, if_neg (by decide)]
def ioX (A : TS) (e a : Nat) : Bool := decide (placeF A e a ≠ 0 ∧ tr A 23 (600 * e + (placeF A e a - 1)) = tr A 12 a)
def ioL (A : TS) (e : Nat) : Nat → Bool
  | 0 => true
  | a + 1 => if tn A 7 a ≠ 2 ∧ tn A 11 a ≠ 0 then ibL A e a (ioL A e a && ioX A e a) (tf A 13) else ioL A e a
def frL (A : TS) (e g : Nat) : Nat → Nat
  | 0 => 0
  | k + 1 => if tn A 8 (tn A 22 (600 * e + k)) = tn A 8 g ∧ tn A 11 (tn A 22 (600 * e + k)) ≠ 0 ∧ tn A 11 (tn A 22 (600 * e + k)) ≤ tn A 10 g then k + 1 else frL A e g k
theorem frL_le (A : TS) (e g : Nat) : ∀ k, frL A e g k ≤ k
  | 0 => Nat.le_refl _
  | k + 1 => by have := frL_le A e g k; unfold frL; split <;> omega
def toL (A : TS) (e g : Nat) : Nat → Nat
  | 0 => tn A 26 e
  | k + 1 => if tn A 8 (tn A 22 (600 * e + k)) = tn A 8 g ∧ tn A 11 g ≤ tn A 10 (tn A 22 (600 * e + k)) ∧ k < toL A e g k then k else toL A e g k
theorem toL_le (A : TS) (e g : Nat) : ∀ k, toL A e g k ≤ tn A 26 e
  | 0 => Nat.le_refl _
  | k + 1 => by have := toL_le A e g k; unfold toL; split <;> omega
def seL (A : TS) (e g f : Nat) : Nat → Bool
  | 0 => false
  | j + 1 => seL A e g f j || decide (vaF A e (tn A 8 g) (f + j) = tr A 12 g)
def seenF (A : TS) (e g : Nat) : Bool := seL A e g (frL A e g (tn A 26 e)) (toL A e g (tn A 26 e) + 1 - frL A e g (tn A 26 e))
def auL (A : TS) (e : Nat) (x : Bool) : Nat → Bool
  | 0 => x
  | g + 1 => if auL A e x g = true then (if tn A 7 g = 2 ∧ tn A 11 g ≠ 0 then seenF A e g else true) else false
theorem auL_false {A : TS} {e : Nat} {x : Bool} {k : Nat} (h : auL A e x k = false) : ∀ n, k ≤ n → auL A e x n = false
  | 0, hn => by rw [show (0 : Nat) = k by omega]; exact h
  | n + 1, hn => by
    rcases Nat.lt_or_ge n k with q | q
    · rw [show n + 1 = k by omega]; exact h
    · unfold auL
      rw [auL_false h n q, if_neg (by decide)]
def audF (A : TS) : Nat := if tb A 30 (tf A 38 - 1) = false then 0 else if auL A (tf A 38 - 1) (onL A (tf A 38 - 1) (tn A 26 (tf A 38 - 1)) && ioL A (tf A 38 - 1) (tf A 13)) (tf A 13) = true then 0 else 1
theorem ibL_s {A : TS} {e a b : Nat} {x : Bool} (h : ibL A e a x b = true) : ibL A e a x (b + 1) = ibS A e a b true := if_pos h
theorem auL_s {A : TS} {e g : Nat} {x : Bool} (h : auL A e x g = true) : auL A e x (g + 1) = if tn A 7 g = 2 ∧ tn A 11 g ≠ 0 then seenF A e g else true := if_pos h
theorem audF_d {A : TS} (h : tb A 30 (tf A 38 - 1) = false) : audF A = 0 := if_pos h
theorem audF_0 {A : TS} (h : tb A 30 (tf A 38 - 1) = true) (k : auL A (tf A 38 - 1) (onL A (tf A 38 - 1) (tn A 26 (tf A 38 - 1)) && ioL A (tf A 38 - 1) (tf A 13)) (tf A 13) = true) : audF A = 0 := by
  unfold audF
  rw [if_neg (by rw [h]; decide), if_pos k]
theorem audF_1 {A : TS} (h : tb A 30 (tf A 38 - 1) = true) (k : auL A (tf A 38 - 1) (onL A (tf A 38 - 1) (tn A 26 (tf A 38 - 1)) && ioL A (tf A 38 - 1) (tf A 13)) (tf A 13) = false) : audF A = 1 := by
  unfold audF
  rw [if_neg (by rw [h]; decide), if_neg (by rw [k]; decide)]
/-- a number that is brought near -/
def nrF (x : Int32) (lo hi : Nat) : Nat := if x < nI lo then lo else if nI hi < x then hi else x.toInt.toNat
theorem nrF_1 {x : Int32} {lo hi : Nat} (h : x < nI lo) : nrF x lo hi = lo := if_pos h
theorem nrF_2 {x : Int32} {lo hi : Nat} (h : ¬ x < nI lo) (k : nI hi < x) : nrF x lo hi = hi := by
  unfold nrF
  rw [if_neg h, if_pos k]
theorem nrF_3 {x : Int32} {lo hi : Nat} (hl : lo < 2 ^ 31) (h : ¬ x < nI lo) (k : ¬ nI hi < x) : nI (nrF x lo hi) = x := by
  unfold nrF
  rw [if_neg h, if_neg k]
  have h0 : ¬ x < nI lo := h
  rw [Int32.lt_iff_toInt_lt, nI_toInt hl] at h0
  have b := x.toInt_lt
  rw [← Int32.toInt_inj, nI_toInt (by omega)]
  omega
theorem nrF_le {x : Int32} {lo hi : Nat} (hl : lo ≤ hi) (hh : hi < 2 ^ 31) : lo ≤ nrF x lo hi ∧ nrF x lo hi ≤ hi := by
  unfold nrF
  split
  · omega
  · rename_i a
    split
    · omega
    · rename_i b
      rw [Int32.lt_iff_toInt_lt, nI_toInt (by omega)] at a b
      omega
