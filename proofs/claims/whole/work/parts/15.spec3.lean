theorem oI_posI {t : Nat} (h : t ≠ 0) : oI t = nI (t - 1) := by
  obtain ⟨u, rfl⟩ : ∃ u, t = u + 1 := ⟨t - 1, by omega⟩
  rw [oI_s]
  rfl
theorem placeF_le (A : TS) (e op : Nat) : placeF A e op ≤ tn A 26 e := plF_le A e op _
def snowF (A : TS) (e op : Nat) : TS := if placeF A e op = 0 then A else if placeF A e op - 1 < tn A 28 e then ansF A e op (tr A 23 (600 * e + (placeF A e op - 1))) true else synF (sb A 25 (600 * e + (placeF A e op - 1)) true) e
def rsynA (A : TS) (b e n : Nat) : TS := if tn A 39 b < e then sn (sn A 39 b e) 40 b n else if tn A 40 b < n then sn A 40 b n else A
def rsynF (A : TS) (b e n c : Nat) : TS := if e < tn A 39 b then A else sendF (rsynA A b e n) 7 e b 0 (tn (rsynA A b e n) 40 b) c (nI 0) false
def hoF (A : TS) (w op : Nat) : Nat → Bool
  | 0 => false
  | k + 1 => hoF A w op k || decide (tn A 43 (16 * w + k) = op)
def holdF (A : TS) (w op : Nat) : Bool := hoF A w op (tn A 44 w)
def hrF (A : TS) (w key : Nat) : Nat → Bool
  | 0 => true
  | k + 1 => hrF A w key k && decide (tn A 8 (tn A 43 (16 * w + k)) ≠ key)
def hiF (A : TS) (w key : Nat) : Nat → Nat
  | 0 => 0
  | k + 1 => hiF A w key k + (if tn A 8 (tn A 43 (16 * w + k)) % tf A 2 = key % tf A 2 then 1 else 0)
theorem hiF_le (A : TS) (w key : Nat) : ∀ k, hiF A w key k ≤ k
  | 0 => Nat.le_refl _
  | k + 1 => by have := hiF_le A w key k; unfold hiF; split <;> omega
def roomF (A : TS) (w key : Nat) : Bool := hrF A w key (tn A 44 w) && decide (hiF A w key (tn A 44 w) < tf A 3)
def recB (A : TS) (w e op : Nat) : Bool := decide (tn A 41 w = e) && (!tb A 42 w && (holdF A w op || roomF A w (tn A 8 op)))
def recA (A : TS) (w e op : Nat) : TS := if recB A w e op = true ∧ holdF A w op = false then sn (sn A 43 (16 * w + tn A 44 w) op) 44 w (tn A 44 w + 1) else A
def recF (A : TS) (w e op : Nat) : TS := sendF (recA A w e op) (if recB A w e op = true then 3 else 4) e (tn A 5 op) (op + 1) (tn A 6 op) w (nI 0) false
def gcS (w e n k : Nat) (p : TS × Nat) : TS × Nat := if placeF p.1 e (tn p.1 43 (16 * w + k)) ≠ 0 ∧ placeF p.1 e (tn p.1 43 (16 * w + k)) ≤ n then p else (sn p.1 43 (16 * w + p.2) (tn p.1 43 (16 * w + k)), p.2 + 1)
def gcL (A : TS) (w e n : Nat) : Nat → TS × Nat
  | 0 => (A, 0)
  | k + 1 => gcS w e n k (gcL A w e n k)
def gcF (A : TS) (w e n : Nat) : TS := if tn A 41 w = e then sn (gcL A w e n (tn A 44 w)).1 44 w (gcL A w e n (tn A 44 w)).2 else A
/-- the collecting of records writes records alone, behind it all is as it was -/
theorem gcL_inv (A : TS) (w e n : Nat) : ∀ k, (gcL A w e n k).2 ≤ k ∧ (∀ j, tf (gcL A w e n k).1 j = tf A j) ∧ (∀ j i, j ≠ 43 → tn (gcL A w e n k).1 j i = tn A j i) ∧ (∀ i, i < 16 * w ∨ 16 * w + (gcL A w e n k).2 ≤ i → tn (gcL A w e n k).1 43 i = tn A 43 i) ∧ (∀ j i, tr (gcL A w e n k).1 j i = tr A j i) ∧ (∀ j i, tb (gcL A w e n k).1 j i = tb A j i)
  | 0 => ⟨Nat.le_refl _, fun _ => rfl, fun _ _ _ => rfl, fun _ _ => rfl, fun _ _ => rfl, fun _ _ => rfl⟩
  | k + 1 => by
    obtain ⟨h0, h1, h2, h5, h3, h4⟩ := gcL_inv A w e n k
    unfold gcL gcS
    split
    · exact ⟨by omega, h1, h2, h5, h3, h4⟩
    · refine ⟨by show _ + 1 ≤ _; omega, h1, fun j i q => ?_, fun i q => ?_, h3, h4⟩
      · show tn (sn _ _ _ _) j i = _
        rw [tn_sn, if_neg (fun z => q z.1)]
        exact h2 j i q
      · have q' : i < 16 * w ∨ 16 * w + ((gcL A w e n k).2 + 1) ≤ i := q
        show tn (sn _ _ _ _) 43 i = _
        rw [tn_sn, if_neg (by omega)]
        exact h5 i (by omega)
theorem plF_same {A B : TS} (e op : Nat) (h : ∀ i, tn B 22 i = tn A 22 i) : ∀ n, plF B e op n = plF A e op n
  | 0 => rfl
  | k + 1 => by unfold plF; rw [h, plF_same e op h k]
theorem placeF_same {A B : TS} (e op : Nat) (h : ∀ i, tn B 22 i = tn A 22 i) (h2 : tn B 26 e = tn A 26 e) : placeF B e op = placeF A e op := by unfold placeF; rw [h2, plF_same e op h]
theorem gcL_NB {K : Nat} {A : TS} {w e n : Nat} (h : NB K A) : ∀ k, NB K (gcL A w e n k).1
  | 0 => h
  | k + 1 => by
    have h1 := gcL_NB (w := w) (e := e) (n := n) h k
    unfold gcL gcS
    split
    · exact h1
    · exact h1.sn (h1.2 _ _)
def rstF (A : TS) (w e : Nat) : TS := if e < tn A 41 w ∨ (tn A 41 w = e ∧ tb A 42 w = false) then A else sn (sb (sn A 41 w e) 42 w false) 44 w 0
def begL (A : TS) (e op : Nat) : Nat → TS
  | 0 => A
  | w + 1 => sendOpF (begL A e op w) 1 e w op
theorem begL_keep (A : TS) (e op : Nat) : ∀ w, keepL A (begL A e op w)
  | 0 => keepL.rfl
  | w + 1 => (begL_keep A e op w).trans (send_keep ..)
theorem begL_le {A : TS} {e op : Nat} (h : tf A 53 ≤ 250) : ∀ w, tf (begL A e op w) 53 ≤ 250
  | 0 => h
  | w + 1 => send_le _ _ _ _ _ _ _ _ (begL_le h w)
theorem begL_NB {K : Nat} {A : TS} {e op : Nat} (h : NB K A) (he : e ≤ K) (ho : op < K) (h9 : 9 ≤ K) : ∀ b, b ≤ 3 → NB (K + 3) (begL A e op b) := by
  have key : ∀ b, b ≤ 3 → NB (K + b) (begL A e op b) := by
    intro b
    induction b with
    | zero => exact fun _ => h
    | succ b ih =>
      intro hb
      have h1 := ih (by omega)
      have h2 := h1.2 6 op
      exact h1.send (by omega) (by omega) (by omega) (by omega) (by omega) (by omega) (by omega)
  exact fun b hb => (key b hb).mono (by omega)
def begA (A : TS) (c : Nat) : TS := sendOpF (sb (sn A 18 c 0) 19 c false) 0 (tn A 17 c) c (tn A 16 c - 1)
def begF (A : TS) (c : Nat) : TS := if tn A 7 (tn A 16 c - 1) ≠ 2 then begL (begA A c) (tn A 17 c) (tn A 16 c - 1) (tf A 1) else begA A c
def endF (A : TS) (c : Nat) (v : Int32) : TS := sf (sr (sn (sf A 14 (tf A 14 + 1)) 11 (tn A 16 c - 1) (tf A 14 + 1 + 1)) 12 (tn A 16 c - 1) v) 15 (tf A 15 + 1)
