theorem mval_1 {A : TS} {j i : Nat} (h : mkind j = 1) : mval A j i = nI (tn A j i) := by simp [mval, h]
theorem mval_2 {A : TS} {j i : Nat} (h : mkind j = 2) : mval A j i = oI (tn A j i) := by simp [mval, h]
theorem mval_3 {A : TS} {j i : Nat} (h : mkind j = 3) : mval A j i = tr A j i := by simp [mval, h]
theorem mval_4 {A : TS} {j i : Nat} (h : mkind j = 4) : mval A j i = bI (tb A j i) := by simp [mval, h]
theorem bI_1 {b : Bool} (h : ¬ b = false) : b = true := by cases b <;> first | rfl | exact absurd rfl h
theorem nI_eqO {t u : Nat} (h : t < 2 ^ 31) (hu : u < 2 ^ 31) : nI u = oI t ↔ t = u + 1 := ⟨fun q => (oI_eqN h hu).mp q.symm, fun q => ((oI_eqN h hu).mpr q).symm⟩
theorem oI_le {t u : Nat} (h : t < 2 ^ 31) (hu : u < 2 ^ 31) : oI t ≤ oI u ↔ t ≤ u := by
  rw [Int32.le_iff_toInt_le, oI_toInt h, oI_toInt hu]
  omega
theorem nI_z_lt {t : Nat} (h : t < 2 ^ 31) : nI t < 0 ↔ False := ⟨fun q => nI_pos h q, fun q => q.elim⟩
theorem nI_z_ge {t : Nat} (h : t < 2 ^ 31) : 0 ≤ nI t ↔ True := ⟨fun _ => trivial, fun _ => nI_pos' h⟩
theorem nI_z_eq {t : Nat} (h : t < 2 ^ 31) : nI t = 0 ↔ t = 0 := by
  have := nI_eq (a := t) (b := 0) h (by decide)
  rwa [nI_0] at this
theorem nI_z_ne {t : Nat} (h : t < 2 ^ 31) : ¬ nI t = 0 ↔ ¬ t = 0 := not_congr (nI_z_eq h)
theorem nI_z_le {t : Nat} (h : t < 2 ^ 31) : nI t ≤ 0 ↔ t = 0 := by
  have := nI_leI (a := t) (b := 0) h (by decide)
  rw [nI_0] at this
  exact this.trans (by omega)
theorem nI_z_gt {t : Nat} (h : t < 2 ^ 31) : 0 < nI t ↔ 0 < t := by
  have := nI_ltI (a := 0) (b := t) (by decide) h
  rwa [nI_0] at this
/-- every number of the state is at most K -/
def NB (K : Nat) (A : TS) : Prop := (∀ j, tf A j ≤ K) ∧ ∀ j i, tn A j i ≤ K
theorem NB.mono {K K' : Nat} {A : TS} (h : NB K A) (hk : K ≤ K') : NB K' A := ⟨fun j => Nat.le_trans (h.1 j) hk, fun j i => Nat.le_trans (h.2 j i) hk⟩
theorem NB.sf {K j v : Nat} {A : TS} (h : NB K A) (hv : v ≤ K) : NB K (sf A j v) := ⟨fun x => by rw [tf_sf]; split <;> first | exact hv | exact h.1 x, h.2⟩
theorem NB.sn {K j i v : Nat} {A : TS} (h : NB K A) (hv : v ≤ K) : NB K (sn A j i v) := ⟨h.1, fun x y => by rw [tn_sn]; split <;> first | exact hv | exact h.2 x y⟩
theorem NB.sr {K j i : Nat} {v : Int32} {A : TS} (h : NB K A) : NB K (sr A j i v) := h
theorem NB.sb {K j i : Nat} {v : Bool} {A : TS} (h : NB K A) : NB K (sb A j i v) := h
/-! what the reference's methods do, as functions -/
def plF (A : TS) (e op : Nat) : Nat → Nat
  | 0 => 0
  | k + 1 => if tn A 22 (600 * e + k) = op then k + 1 else plF A e op k
/-- the last place of an operation in a log, one more; 0: it isn't there -/
def placeF (A : TS) (e op : Nat) : Nat := plF A e op (tn A 26 e)
theorem plF_le (A : TS) (e op : Nat) : ∀ n, plF A e op n ≤ n
  | 0 => Nat.le_refl _
  | k + 1 => by unfold plF; split <;> first | exact Nat.le_refl _ | exact Nat.le_succ_of_le (plF_le A e op k)
