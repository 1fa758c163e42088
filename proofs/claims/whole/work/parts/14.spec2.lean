theorem synL_NB {K : Nat} {A : TS} {e n c : Nat} (h : NB K A) (he : e ≤ K) (hn : n ≤ K) (hc : c ≤ K) (h9 : 9 ≤ K) : ∀ b, b ≤ 3 → NB (K + 4) (synL A e n c b) := by
  have key : ∀ b, b ≤ 3 → NB (K + b) (synL A e n c b) := by
    intro b
    induction b with
    | zero => exact fun _ => h
    | succ b ih => exact fun hb => (ih (by omega)).send (by omega) (by omega) (by omega) (by omega) (by omega) (by omega) (by omega)
  exact fun b hb => (key b hb).mono (by omega)
theorem resL_NB {K : Nat} {A : TS} {e : Nat} (h : NB K A) (he : e ≤ K) (h9 : 9 ≤ K) : ∀ b, b ≤ 3 → NB (K + 3) (resL A e b) := by
  have key : ∀ b, b ≤ 3 → NB (K + b) (resL A e b) := by
    intro b
    induction b with
    | zero => exact fun _ => h
    | succ b ih => exact fun hb => (ih (by omega)).send (by omega) (by omega) (by omega) (by omega) (by omega) (by omega) (by omega)
  exact fun b hb => (key b hb).mono (by omega)
def lkF (A : TS) (e : Nat) : Nat → Nat
  | 0 => tn A 32 (3 * e)
  | b + 1 => if tn A 32 (3 * e + (b + 1)) < lkF A e b then tn A 32 (3 * e + (b + 1)) else lkF A e b
theorem lkF_le {K : Nat} {A : TS} (h : NB K A) {e : Nat} : ∀ b, lkF A e b ≤ K
  | 0 => h.2 _ _
  | b + 1 => by unfold lkF; split <;> first | exact h.2 _ _ | exact lkF_le h b
