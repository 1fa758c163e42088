/-! ===== a heap of typed cells: addresses, kinds, int and reference fields by a field's own number (64 * class + place), rows of arrays ===== -/
abbrev HS : Type := List Nat × (Nat → Nat) × (Nat → Nat → Int32) × (Nat → Nat → Option Nat) × (Nat → Nat) × (Nat → Nat → Int32) × (Nat → Nat → Option Nat) × (Nat → Nat → Int64)
def zL (S : HS) : List Nat := S.1
def zK (S : HS) : Nat → Nat := S.2.1
def zI (S : HS) : Nat → Nat → Int32 := S.2.2.1
def zP (S : HS) : Nat → Nat → Option Nat := S.2.2.2.1
def zN (S : HS) : Nat → Nat := S.2.2.2.2.1
def zA (S : HS) : Nat → Nat → Int32 := S.2.2.2.2.2.1
def zR (S : HS) : Nat → Nat → Option Nat := S.2.2.2.2.2.2.1
def zJ (S : HS) : Nat → Nat → Int64 := S.2.2.2.2.2.2.2
def up2 {α : Type} (f : Nat → Nat → α) (g a : Nat) (v : α) : Nat → Nat → α := fun h b => if h = g ∧ b = a then v else f h b
def setI (S : HS) (g a : Nat) (v : Int32) : HS := (zL S, zK S, up2 (zI S) g a v, zP S, zN S, zA S, zR S, zJ S)
def setP (S : HS) (g a : Nat) (v : Option Nat) : HS := (zL S, zK S, zI S, up2 (zP S) g a v, zN S, zA S, zR S, zJ S)
def setA (S : HS) (a : Nat) (f : Nat → Int32) : HS := (zL S, zK S, zI S, zP S, zN S, va_up (zA S) a f, zR S, zJ S)
def setR (S : HS) (a : Nat) (f : Nat → Option Nat) : HS := (zL S, zK S, zI S, zP S, zN S, zA S, va_up (zR S) a f, zJ S)
def setJ (S : HS) (a : Nat) (f : Nat → Int64) : HS := (zL S, zK S, zI S, zP S, zN S, zA S, zR S, va_up (zJ S) a f)
/-- a new object of class k at q: every field at q is 0 or null -/
def newO (S : HS) (q k : Nat) : HS := (zL S ++ [q], va_up (zK S) q k, (fun g b => if b = q then 0 else zI S g b), (fun g b => if b = q then none else zP S g b), zN S, zA S, zR S, zJ S)
/-- a new array of kind k and n places at q: zeros, nulls -/
def newA (S : HS) (q k n : Nat) : HS := (zL S ++ [q], va_up (zK S) q k, zI S, zP S, va_up (zN S) q n, va_up (zA S) q (fun _ => 0), va_up (zR S) q (fun _ => none), va_up (zJ S) q (fun _ => 0))
/-- by class: which fields are numbers (true), which are references -/
def fty : Nat → List Bool
  | 0 => [true, false, true]
  | 1 => [true, true, true]
  | 2 => [true, false, true, true, true, true]
  | 3 => [false, true, true, true]
  | 4 => [true, true, true, false, true, true, true]
  | 5 => [true, true, false, false, false, false, false, true, true, true, true, true]
  | 6 => [true, true, true, true, true, true, true, true]
  | 7 => [false, true]
  | 8 => [false, true, true, true, true]
  | 9 => [true, true, true, false, true, true]
  | 10 => [true, true, true, false, false, false, false, false, false, true, true]
  | 11 => [true, true, true, true, true, false, false, false, false, false, false, false, false, true, true, true, false, false, false, false, false, false, false, false, false, false, false, false, false, false, false, false, false, false, false, false, false, false, true, false, false, false, false, false, false, false, false, false, false, false, false, false, false, true, true]
  | _ => []
def fval (b : Bool) (S : HS) (g a : Nat) : Value := if b = true then .int (zI S g a) else va_rf (zP S g a)
def fvs (S : HS) (k a : Nat) : Nat → List Bool → List Value
  | _, [] => []
  | j, b :: r => fval b S (64 * k + j) a :: fvs S k a (j + 1) r
/-- what lies at an address, by its kind: 0 to 11 the classes, 20 int, 21 boolean, 22 long, 23 on the references' arrays -/
def wC (tc : Nat → ClassId) (S : HS) (a : Nat) : va_E :=
  if zK S a < 20 then .inr (zK S a, fvs S (zK S a) a 0 (fty (zK S a)))
  else if zK S a = 22 then .inl (tc 2, zN S a, .inr (.inl (zJ S a)))
  else if zK S a < 22 then .inl (tc (zK S a - 20), zN S a, .inl (zA S a))
  else .inl (tc (zK S a - 20), zN S a, .inr (.inr (.inr (.inr (zR S a)))))
theorem fvs_get (S : HS) (k a : Nat) : ∀ (l : List Bool) (i j : Nat) (b : Bool), l[j]? = some b → (fvs S k a i l)[j]? = some (fval b S (64 * k + (i + j)) a)
  | [], i, j, b, h => by simp at h
  | c :: r, i, 0, b, h => by
    have : c = b := by simpa using h
    subst this
    rfl
  | c :: r, i, j + 1, b, h => by
    have h' : r[j]? = some b := by simpa using h
    have := fvs_get S k a r (i + 1) j b h'
    rw [show i + 1 + j = i + (j + 1) by omega] at this
    simpa [fvs] using this
theorem fvs_len (S : HS) (k a : Nat) : ∀ (l : List Bool) (i : Nat), (fvs S k a i l).length = l.length
  | [], i => rfl
  | c :: r, i => by simp [fvs, fvs_len S k a r (i + 1)]
theorem fvs_ext {S T : HS} {k a : Nat} : ∀ (l : List Bool) (i : Nat), (∀ j b, l[j]? = some b → fval b S (64 * k + (i + j)) a = fval b T (64 * k + (i + j)) a) → fvs S k a i l = fvs T k a i l
  | [], i, _ => rfl
  | c :: r, i, h => by
    have h0 := h 0 c (by simp)
    have h1 := fvs_ext (S := S) (T := T) (k := k) (a := a) r (i + 1) (fun j b hj => by
      have := h (j + 1) b (by simpa using hj)
      rw [show i + 1 + j = i + (j + 1) by omega]
      exact this)
    simp only [fvs, h1]
    rw [show i = i + 0 by omega]
    rw [h0]
theorem fvs_setI (S : HS) (k a : Nat) (v : Int32) (l : List Bool) (j : Nat) (h : l[j]? = some true) : (fvs S k a 0 l).set j (.int v) = fvs (setI S (64 * k + j) a v) k a 0 l := by
  apply List.ext_getElem?
  intro i
  have hl := (List.getElem?_eq_some_iff.mp h).1
  by_cases hi : i = j
  · subst hi
    rw [List.getElem?_set_self (by rw [fvs_len]; exact hl), fvs_get _ k a l 0 i true h]
    simp [fval, setI, zI, up2]
  · rw [List.getElem?_set_ne (Ne.symm hi)]
    cases hb : l[i]? with
    | none =>
      rw [List.getElem?_eq_none (by rw [fvs_len]; exact List.getElem?_eq_none_iff.mp hb), List.getElem?_eq_none (by rw [fvs_len]; exact List.getElem?_eq_none_iff.mp hb)]
    | some b =>
      rw [fvs_get _ k a l 0 i b hb, fvs_get _ k a l 0 i b hb]
      cases b <;> simp [fval, setI, zI, zP, up2, hi]
theorem fvs_setP (S : HS) (k a : Nat) (v : Option Nat) (l : List Bool) (j : Nat) (h : l[j]? = some false) : (fvs S k a 0 l).set j (va_rf v) = fvs (setP S (64 * k + j) a v) k a 0 l := by
  apply List.ext_getElem?
  intro i
  have hl := (List.getElem?_eq_some_iff.mp h).1
  by_cases hi : i = j
  · subst hi
    rw [List.getElem?_set_self (by rw [fvs_len]; exact hl), fvs_get _ k a l 0 i false h]
    simp [fval, setP, zP, up2]
  · rw [List.getElem?_set_ne (Ne.symm hi)]
    cases hb : l[i]? with
    | none =>
      rw [List.getElem?_eq_none (by rw [fvs_len]; exact List.getElem?_eq_none_iff.mp hb), List.getElem?_eq_none (by rw [fvs_len]; exact List.getElem?_eq_none_iff.mp hb)]
    | some b =>
      rw [fvs_get _ k a l 0 i b hb, fvs_get _ k a l 0 i b hb]
      cases b <;> simp [fval, setP, zI, zP, up2, hi]
theorem wC_setI (tc : Nat → ClassId) (S : HS) {k j a : Nat} (v : Int32) (hk : zK S a = k) (h20 : k < 20) (h : (fty k)[j]? = some true) : va_up (wC tc S) a (.inr (k, (fvs S k a 0 (fty k)).set j (.int v))) = wC tc (setI S (64 * k + j) a v) := by
  funext b
  by_cases hb : b = a
  · subst hb
    rw [va_up_self, fvs_setI S k b v (fty k) j h]
    have e : zK (setI S (64 * k + j) b v) b = k := hk
    simp only [wC, e, h20, if_true]
  · rw [va_up_ne _ _ hb]
    have e : fvs (setI S (64 * k + j) a v) (zK S b) b 0 (fty (zK S b)) = fvs S (zK S b) b 0 (fty (zK S b)) := fvs_ext _ _ (fun i c _ => by cases c <;> simp [fval, setI, zI, zP, up2, hb])
    show wC tc S b = wC tc (setI S (64 * k + j) a v) b
    unfold wC
    rw [show zK (setI S (64 * k + j) a v) b = zK S b from rfl, e]
    rfl
theorem wC_setP (tc : Nat → ClassId) (S : HS) {k j a : Nat} (v : Option Nat) (hk : zK S a = k) (h20 : k < 20) (h : (fty k)[j]? = some false) : va_up (wC tc S) a (.inr (k, (fvs S k a 0 (fty k)).set j (va_rf v))) = wC tc (setP S (64 * k + j) a v) := by
  funext b
  by_cases hb : b = a
  · subst hb
    rw [va_up_self, fvs_setP S k b v (fty k) j h]
    have e : zK (setP S (64 * k + j) b v) b = k := hk
    simp only [wC, e, h20, if_true]
  · rw [va_up_ne _ _ hb]
    have e : fvs (setP S (64 * k + j) a v) (zK S b) b 0 (fty (zK S b)) = fvs S (zK S b) b 0 (fty (zK S b)) := fvs_ext _ _ (fun i c _ => by cases c <;> simp [fval, setP, zI, zP, up2, hb])
    show wC tc S b = wC tc (setP S (64 * k + j) a v) b
    unfold wC
    rw [show zK (setP S (64 * k + j) a v) b = zK S b from rfl, e]
    rfl
theorem wC_arr {tc : Nat → ClassId} {S : HS} {a : Nat} (k : Nat) (hk : zK S a = k) (h1 : k = 20 ∨ k = 21) : wC tc S a = .inl (tc (k - 20), zN S a, .inl (zA S a)) := by
  rcases h1 with rfl | rfl <;> simp [wC, hk]
theorem wC_arq {tc : Nat → ClassId} {S : HS} {a : Nat} (k : Nat) (hk : zK S a = k) (h1 : 23 ≤ k) : wC tc S a = .inl (tc (k - 20), zN S a, .inr (.inr (.inr (.inr (zR S a))))) := by
  simp [wC, hk, show ¬ k < 20 by omega, show ¬ k = 22 by omega, show ¬ k < 22 by omega]
theorem wC_arl {tc : Nat → ClassId} {S : HS} {a : Nat} (hk : zK S a = 22) : wC tc S a = .inl (tc 2, zN S a, .inr (.inl (zJ S a))) := by
  simp [wC, hk]
theorem wC_obj {tc : Nat → ClassId} {S : HS} {a : Nat} (k : Nat) (hk : zK S a = k) (h1 : k < 20) : wC tc S a = .inr (k, fvs S k a 0 (fty k)) := by
  simp [wC, hk, h1]
theorem wC_setA (tc : Nat → ClassId) (S : HS) {k a : Nat} (f : Nat → Int32) (hk : zK S a = k) (h1 : k = 20 ∨ k = 21) : va_up (wC tc S) a (.inl (tc (k - 20), zN S a, .inl f)) = wC tc (setA S a f) := by
  funext b
  by_cases hb : b = a
  · subst hb
    rw [va_up_self, wC_arr (S := setA S b f) k hk h1]
    simp [setA, zA, zN, va_up]
  · rw [va_up_ne _ _ hb]
    have e : fvs (setA S a f) (zK S b) b 0 (fty (zK S b)) = fvs S (zK S b) b 0 (fty (zK S b)) := fvs_ext _ _ (fun i c _ => rfl)
    have e2 : zA (setA S a f) b = zA S b := by simp [setA, zA, va_up, hb]
    show wC tc S b = wC tc (setA S a f) b
    unfold wC
    rw [show zK (setA S a f) b = zK S b from rfl, e, e2]
    rfl
theorem wC_setR (tc : Nat → ClassId) (S : HS) {k a : Nat} (f : Nat → Option Nat) (hk : zK S a = k) (h1 : 23 ≤ k) : va_up (wC tc S) a (.inl (tc (k - 20), zN S a, .inr (.inr (.inr (.inr f))))) = wC tc (setR S a f) := by
  funext b
  by_cases hb : b = a
  · subst hb
    rw [va_up_self, wC_arq (S := setR S b f) k hk h1]
    simp [setR, zR, zN, va_up]
  · rw [va_up_ne _ _ hb]
    have e : fvs (setR S a f) (zK S b) b 0 (fty (zK S b)) = fvs S (zK S b) b 0 (fty (zK S b)) := fvs_ext _ _ (fun i c _ => rfl)
    have e2 : zR (setR S a f) b = zR S b := by simp [setR, zR, va_up, hb]
    show wC tc S b = wC tc (setR S a f) b
    unfold wC
    rw [show zK (setR S a f) b = zK S b from rfl, e, e2]
    rfl
theorem wC_setJ (tc : Nat → ClassId) (S : HS) {a : Nat} (f : Nat → Int64) (hk : zK S a = 22) : va_up (wC tc S) a (.inl (tc 2, zN S a, .inr (.inl f))) = wC tc (setJ S a f) := by
  funext b
  by_cases hb : b = a
  · subst hb
    rw [va_up_self, wC_arl (S := setJ S b f) hk]
    simp [setJ, zJ, zN, va_up]
  · rw [va_up_ne _ _ hb]
    have e : fvs (setJ S a f) (zK S b) b 0 (fty (zK S b)) = fvs S (zK S b) b 0 (fty (zK S b)) := fvs_ext _ _ (fun i c _ => rfl)
    have e2 : zJ (setJ S a f) b = zJ S b := by simp [setJ, zJ, va_up, hb]
    show wC tc S b = wC tc (setJ S a f) b
    unfold wC
    rw [show zK (setJ S a f) b = zK S b from rfl, e, e2]
    rfl
theorem wC_newO (tc : Nat → ClassId) (S : HS) {k q : Nat} (h20 : k < 20) : va_up (wC tc S) q (.inr (k, (fty k).map (fun b => if b = true then Value.int 0 else Value.null))) = wC tc (newO S q k) := by
  funext b
  by_cases hb : b = q
  · subst hb
    rw [va_up_self, wC_obj (S := newO S b k) k (by simp [newO, zK, va_up]) h20]
    congr 2
    have key : ∀ (l : List Bool) (i : Nat), l.map (fun b => if b = true then Value.int 0 else Value.null) = fvs (newO S b k) k b i l := by
      intro l
      induction l with
      | nil => intro i; rfl
      | cons c r ih =>
        intro i
        simp only [List.map_cons, fvs, ← ih (i + 1)]
        congr 1
        cases c <;> simp [fval, newO, zI, zP, va_rf]
    exact key _ 0
  · rw [va_up_ne _ _ hb]
    have e : fvs (newO S q k) (zK S b) b 0 (fty (zK S b)) = fvs S (zK S b) b 0 (fty (zK S b)) := fvs_ext _ _ (fun i c _ => by cases c <;> simp [fval, newO, zI, zP, hb])
    show wC tc S b = wC tc (newO S q k) b
    unfold wC
    rw [show zK (newO S q k) b = zK S b by simp [newO, zK, va_up, hb], e]
    rfl
theorem wC_newA (tc : Nat → ClassId) (S : HS) {k q n : Nat} (h20 : 20 ≤ k) {e : va_E} (he : wC tc (newA S q k n) q = e) : va_up (wC tc S) q e = wC tc (newA S q k n) := by
  funext b
  by_cases hb : b = q
  · subst hb
    rw [va_up_self, he]
  · rw [va_up_ne _ _ hb]
    have e1 : fvs (newA S q k n) (zK S b) b 0 (fty (zK S b)) = fvs S (zK S b) b 0 (fty (zK S b)) := fvs_ext _ _ (fun i c _ => rfl)
    have e2 : zJ (newA S q k n) b = zJ S b := by simp [newA, zJ, va_up, hb]
    have e3 : zA (newA S q k n) b = zA S b := by simp [newA, zA, va_up, hb]
    have e4 : zR (newA S q k n) b = zR S b := by simp [newA, zR, va_up, hb]
    have e5 : zN (newA S q k n) b = zN S b := by simp [newA, zN, va_up, hb]
    show wC tc S b = wC tc (newA S q k n) b
    unfold wC
    rw [show zK (newA S q k n) b = zK S b by simp [newA, zK, va_up, hb], e1, e2, e3, e4, e5]
/-! the world: the pool of all addresses -/
abbrev zW (tc : Nat → ClassId) (S : HS) : va_W := va_pl (zL S) (wC tc S)
abbrev zP1 (D : va_G) (tc : Nat → ClassId) (S : HS) (H : Heap) : Prop := va_P D vwCl (zW tc S) H
abbrev zD1 (tc : Nat → ClassId) (A : Nat → Prop) (S : HS) : Prop := va_D A (zW tc S)
theorem zW_at (tc : Nat → ClassId) {S : HS} {a : Nat} (h : a ∈ zL S) : ∃ k : Nat, (zW tc S)[k]? = some (a, wC tc S a) := va_pl_get (X := []) h
theorem zW_up {tc : Nat → ClassId} {A : Nat → Prop} {S S' : HS} {a k : Nat} {e : va_E} (hD : zD1 tc A S) (h : a ∈ zL S) (hk : (zW tc S)[k]? = some (a, wC tc S a)) (hL : zL S' = zL S) (he : va_up (wC tc S) a e = wC tc S') : (zW tc S).set k (a, e) = zW tc S' := by
  have := va_pl_set (X := []) (e := e) hD h hk
  rw [List.nil_append, List.nil_append, he] at this
  rw [this, zW, hL]
theorem zW_push {tc : Nat → ClassId} {S S' : HS} {a : Nat} {e : va_E} (h : a ∉ zL S) (hL : zL S' = zL S ++ [a]) (he : va_up (wC tc S) a e = wC tc S') : zW tc S ++ [(a, e)] = zW tc S' := by
  rw [zW, va_pl_push h, he, zW, hL]
