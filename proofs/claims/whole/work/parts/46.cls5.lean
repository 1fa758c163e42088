/-! ===== the lists' methods over the class's heap ===== -/
section
variable {tc : Nat → ClassId} {a a' : Nat → Nat → Nat} {A B : TS} {S S' T : HS} {b : Nat} {t : Option Nat}
theorem lop.rfl : lop S S b t := hext.rfl.lop b t
theorem lop.sI (h : lop S T b t) {g : Nat} {v : Int32} (hg : g < 3) : lop S (setI T g b v) b t := fun x hx => by
  obtain ⟨a1, a2, a3, a4, a5, a6, a7⟩ := h x hx
  refine ⟨a1, a2, a3, a4, a5, a6, fun g' q => ⟨?_, (a7 g' q).2⟩⟩
  show up2 (zI T) g b v g' x = _
  unfold up2
  rw [if_neg (fun z => q.elim (fun q => by omega) (fun q => q z.2))]
  exact (a7 g' q).1
theorem lop.sP (h : lop S T b t) {g : Nat} {v : Option Nat} (hg : g < 3) : lop S (setP T g b v) b t := fun x hx => by
  obtain ⟨a1, a2, a3, a4, a5, a6, a7⟩ := h x hx
  refine ⟨a1, a2, a3, a4, a5, a6, fun g' q => ⟨(a7 g' q).1, ?_⟩⟩
  show up2 (zP T) g b v g' x = _
  unfold up2
  rw [if_neg (fun z => q.elim (fun q => by omega) (fun q => q z.2))]
  exact (a7 g' q).2
theorem lop.sR {t : Nat} {f : Nat → Option Nat} (h : lop S T b (some t)) : lop S (setR T t f) b (some t) := fun x hx => by
  obtain ⟨a1, a2, a3, a4, a5, a6, a7⟩ := h x hx
  refine ⟨a1, a2, a3, a4, a5, fun q => ?_, a7⟩
  have hne : x ≠ t := fun z => q (congrArg some z.symm)
  exact (va_up_ne _ _ hne).trans (a6 q)
theorem lop.nA {r k n : Nat} (h : lop S T b t) (hr : r ∉ zL S) : lop S (newA T r k n) b t := fun x hx => by
  obtain ⟨a1, a2, a3, a4, a5, a6, a7⟩ := h x hx
  have hne : x ≠ r := fun z => hr (z ▸ hx)
  exact ⟨List.mem_append_left _ a1, (va_up_ne _ _ hne).trans a2, (va_up_ne _ _ hne).trans a3, (va_up_ne _ _ hne).trans a4, (va_up_ne _ _ hne).trans a5, fun q => (va_up_ne _ _ hne).trans (a6 q), a7⟩
/-- the list i0 has got q behind its others -/
def LAdd (tc : Nat → ClassId) (a : Nat → Nat → Nat) (A : TS) (S : HS) (i0 q : Nat) (S' : HS) (t' M' : Nat) : Prop := lop S S' (a 0 i0) (some t') ∧ own1 a A S i0 (some t') ∧ LX tc S' (a 0 i0) t' M' (lsz A i0 + 1) ∧ (∀ k, k < lsz A i0 → zR S' t' k = zR S (a 23 i0) k) ∧ zR S' t' (lsz A i0) = some q ∧ M' = if lsz A i0 = a 50 i0 then gcap (a 50 i0) else a 50 i0
theorem up2_ne {α : Type} {f : Nat → Nat → α} {g x h y : Nat} {v : α} (q : h ≠ g) : up2 f g x v h y = f h y := if_neg (fun z => q z.1)
theorem up2_at {α : Type} {f : Nat → Nat → α} {g x : Nat} {v : α} : up2 f g x v g x = v := if_pos ⟨rfl, rfl⟩
theorem LAdd.stay {i0 q : Nat} (h : RA tc a A S) (hl : lv A 0 i0) (hlt : lsz A i0 < a 50 i0) : LAdd tc a A S i0 q (adS (mcS S (a 0 i0)) (a 0 i0) (a 23 i0) q (lsz A i0)) (a 23 i0) (a 50 i0) := by
  have hX := h.list hl
  obtain ⟨h1, h2, h3, h4, h5, h6, h7⟩ := hX
  have hM : a 50 i0 ≠ 0 := by omega
  obtain ⟨r1, r2, r3⟩ := (h.list hl).arr hM
  refine ⟨?_, fun x hx => ?_, ⟨h1, h2, h3, ?_, by omega, h6, Or.inr ⟨by omega, r1, r2, r3⟩⟩, fun k hk => ?_, ?_, ?_⟩
  · unfold adS mcS
    exact ((lop.rfl.sI (by decide)).sR).sI (by decide)
  · cases hx
    exact Or.inr ⟨rfl, hM⟩
  · exact up2_at
  · have e1 : zR (adS (mcS S (a 0 i0)) (a 0 i0) (a 23 i0) q (lsz A i0)) (a 23 i0) = va_up (zR (mcS S (a 0 i0)) (a 23 i0)) (lsz A i0) (some q) := va_up_self _ _ _
    rw [e1]
    exact va_up_ne _ _ (by omega)
  · have e1 : zR (adS (mcS S (a 0 i0)) (a 0 i0) (a 23 i0) q (lsz A i0)) (a 23 i0) = va_up (zR (mcS S (a 0 i0)) (a 23 i0)) (lsz A i0) (some q) := va_up_self _ _ _
    rw [e1]
    exact va_up_self _ _ _
  · rw [if_neg (by omega)]
theorem LAdd.grown {i0 q r : Nat} (h : RA tc a A S) (hl : lv A 0 i0) (he : lsz A i0 = a 50 i0) (h600 : lsz A i0 < 600) (hr : r ∉ zL S) : LAdd tc a A S i0 q (adS (grS (mcS S (a 0 i0)) (a 0 i0) (a 23 i0) (a 50 i0) r) (a 0 i0) r q (lsz A i0)) r (gcap (a 50 i0)) := by
  have hX := h.list hl
  obtain ⟨h1, h2, h3, h4, h5, h6, h7⟩ := hX
  have hg : gcap (a 50 i0) < 1000 ∧ a 50 i0 < gcap (a 50 i0) := by
    unfold gcap
    split
    · omega
    · split <;> omega
  have hbr : a 0 i0 ≠ r := fun z => hr (z ▸ h1)
  refine ⟨?_, fun x hx => ?_, ⟨List.mem_append_left _ h1, (va_up_ne _ _ hbr).trans h2, ?_, ?_, by omega, hg.1, Or.inr ⟨by omega, List.mem_append_right _ (List.mem_singleton.mpr rfl), va_up_self _ _ _, va_up_self _ _ _⟩⟩, fun k hk => ?_, ?_, ?_⟩
  · unfold adS grS cpA mcS
    exact (((((lop.rfl.sI (by decide)).nA hr).sR).sP (by decide)).sR).sI (by decide)
  · cases hx
    exact Or.inl hr
  · exact up2_at
  · exact up2_at
  · have e1 : zR (adS (grS (mcS S (a 0 i0)) (a 0 i0) (a 23 i0) (a 50 i0) r) (a 0 i0) r q (lsz A i0)) r = va_up (zR (grS (mcS S (a 0 i0)) (a 0 i0) (a 23 i0) (a 50 i0) r) r) (lsz A i0) (some q) := va_up_self _ _ _
    have e2 : zR (grS (mcS S (a 0 i0)) (a 0 i0) (a 23 i0) (a 50 i0) r) r = fun i => if i < a 50 i0 then zR (mcS S (a 0 i0)) (a 23 i0) i else none := va_up_self _ _ _
    rw [e1, va_up_ne _ _ (show k ≠ lsz A i0 by omega), e2]
    exact if_pos (by omega)
  · have e1 : zR (adS (grS (mcS S (a 0 i0)) (a 0 i0) (a 23 i0) (a 50 i0) r) (a 0 i0) r q (lsz A i0)) r = va_up (zR (grS (mcS S (a 0 i0)) (a 0 i0) (a 23 i0) (a 50 i0) r) r) (lsz A i0) (some q) := va_up_self _ _ _
    rw [e1]
    exact va_up_self _ _ _
  · rw [if_pos he]
theorem lfam_le (i : Nat) : 3 ≤ lfam i ∧ lfam i < 9 ∧ lfam i ≠ 7 := by
  unfold lfam
  repeat' split
  all_goals omega
theorem lv_elem {i k : Nat} (hW : WF A) (hl : lv A 0 i) (hk : k < lsz A i) : lv A (lfam i) (lix i k) := by
  obtain ⟨-, ⟨w1, w2, w3, w4, w5⟩, w6, -⟩ := hW
  unfold lsz at hk
  unfold lfam lix
  by_cases y0 : i = 0
  · subst y0
    exact hk
  rw [if_neg y0] at hk
  rw [if_neg y0]
  by_cases y1 : i = 1
  · subst y1
    rw [if_pos rfl] at hk
    show k < tf A 38
    omega
  rw [if_neg y1] at hk
  rw [if_neg y1]
  by_cases y2 : i = 2
  · subst y2
    rw [if_pos rfl] at hk
    show k < tf A 13
    omega
  rw [if_neg y2] at hk
  rw [if_neg y2, if_neg (show ¬ i < 3 by omega)]
  have hl' : i < 3 ∨ (3 ≤ i ∧ i < 3 + tf A 38 ∧ i < 15) ∨ (15 ≤ i ∧ i < 15 + tf A 38) := hl
  by_cases y3 : i < 15
  · rw [if_pos y3] at hk
    rw [if_pos y3, if_pos y3]
    have := (w6 (i - 3) (by omega)).1
    have e1 : (600 * (i - 3) + k) / 600 = i - 3 := by omega
    have e2 : (600 * (i - 3) + k) % 600 = k := by omega
    show (600 * (i - 3) + k) / 600 < tf A 38 ∧ (600 * (i - 3) + k) % 600 < tn A 26 ((600 * (i - 3) + k) / 600)
    rw [e1, e2]
    exact ⟨by omega, hk⟩
  · rw [if_neg y3] at hk
    rw [if_neg y3, if_neg y3]
    have := (w6 (i - 15) (by omega)).2
    have e1 : (600 * (i - 15) + k) / 600 = i - 15 := by omega
    have e2 : (600 * (i - 15) + k) % 600 = k := by omega
    show (600 * (i - 15) + k) / 600 < tf A 38 ∧ (600 * (i - 15) + k) % 600 < tn A 37 ((600 * (i - 15) + k) / 600)
    rw [e1, e2]
    exact ⟨by omega, hk⟩
end
/-- a class by its number: all that a list may hold -/
theorem cls_l : ∀ f, 3 ≤ f → f < 9 → f ≠ 7 → ∃ (C : String) (T : u_T) (N : Nat) (ty : Nat → FieldType), CLS f C T N ty ∧ Cond.castable C "java/lang/Object" ∈ WK := by
  intro f h1 h2 h3
  have : f = 3 ∨ f = 4 ∨ f = 5 ∨ f = 6 ∨ f = 8 := by omega
  rcases this with rfl | rfl | rfl | rfl | rfl
  · exact ⟨_, _, _, _, cls_3, by decide +kernel⟩
  · exact ⟨_, _, _, _, cls_4, by decide +kernel⟩
  · exact ⟨_, _, _, _, cls_5, by decide +kernel⟩
  · exact ⟨_, _, _, _, cls_6, by decide +kernel⟩
  · exact ⟨_, _, _, _, cls_8, by decide +kernel⟩
section
variable {l : Launch} {D : va_G} {tc : Nat → ClassId} {a : Nat → Nat → Nat} {A : TS} {S : HS}
theorem l_size (hls : l.stackTraces = false) (h : RA tc a A S) {i : Nat} (hl : lv A 0 i) {post : Option Value → HS → Prop} (hp : post (some (.int (nI (lsz A i)))) S) : CM l D tc yJx4a65c_size_8abf5 cJx4a65c_size_8abf5 1 (some .int) 0 0 0 [.ref (a 0 i)] S post := m_size hls (h.list hl).1 (h.list hl).2.1 (h.list hl).2.2.2.1 hp
theorem l_get (hls : l.stackTraces = false) (h : RA tc a A S) {i k : Nat} (hl : lv A 0 i) (hk : k < lsz A i) {post : Option Value → HS → Prop} (hp : post (some (.ref (a (lfam i) (lix i k)))) S) : CM l D tc yJx4a65c_get_915e3 cJx4a65c_get_915e3 2 (some (.object "java/lang/Object")) 2 0 0 [.ref (a 0 i), .int (nI k)] S post := m_get hls ((h.list hl).lo (by have := (h.list hl).2.2.2.2.1; omega)) hk (h.elem hl hk) hp
theorem l_add (hls : l.stackTraces = false) (h : RA tc a A S) {i q mc ms : Nat} (hl : lv A 0 i) (h600 : lsz A i < 600) (hq : q ∈ zL S) (hqk : zK S q = lfam i) (hmc : lsz A i = a 50 i → 1 ≤ mc) (hms : lsz A i = a 50 i → gcap (a 50 i) ≤ ms) {post : Option Value → HS → Prop} (hp : ∀ S' t' M', LAdd tc a A S i q S' t' M' → post (some (.int (nI 1))) S') : CM l D tc yJx4a65c_add_9ea2d cJx4a65c_add_9ea2d 2 (some .boolean) 6 mc ms [.ref (a 0 i), .ref q] S post := by
  obtain ⟨f1, f2, f3⟩ := lfam_le i
  obtain ⟨C, T, N, ty, hC, hK⟩ := cls_l (lfam i) f1 f2 f3
  refine m_add hls hC hK (h.list hl) (fun j y hj hy => ?_) hq hqk hmc hms (fun hlt => hp _ _ _ (LAdd.stay h hl hlt)) (fun he r hr => hp _ _ _ (LAdd.grown h hl he h600 hr))
  rw [h.elem hl hj] at hy
  cases hy
  have := lv_elem h.2.2 hl hj
  exact ⟨h.mem this, h.knd this⟩
theorem l_remove (hls : l.stackTraces = false) (h : RA tc a A S) {i k : Nat} (hl : lv A 0 i) (hk : k < lsz A i) {post : Option Value → HS → Prop} (hp : post (some (.ref (a (lfam i) (lix i k)))) (rmS S (a 0 i) (a 23 i) k (lsz A i))) : CM l D tc yJx4a65c_remove_915e3 cJx4a65c_remove_915e3 4 (some (.object "java/lang/Object")) 2 0 0 [.ref (a 0 i), .int (nI k)] S post := by
  obtain ⟨f1, f2, f3⟩ := lfam_le i
  obtain ⟨C, T, N, ty, hC, hK⟩ := cls_l (lfam i) f1 f2 f3
  refine m_remove hls hC hK ((h.list hl).lo (by have := (h.list hl).2.2.2.2.1; omega)) (fun j y hj hy => ?_) hk (h.list hl).2.2.2.2.2.1 (h.elem hl hk) hp
  rw [h.elem hl hj] at hy
  cases hy
  have := lv_elem h.2.2 hl hj
  exact ⟨h.mem this, h.knd this⟩
/-- a list that has been cleared -/
def clX (S : HS) (b t M z : Nat) : HS := if M = 0 then clA S b else clR (clA S b) t z
theorem l_clear (hls : l.stackTraces = false) (h : RA tc a A S) {i : Nat} (hl : lv A 0 i) {post : Option Value → HS → Prop} (hp : post none (clX S (a 0 i) (a 23 i) (a 50 i) (lsz A i))) : CM l D tc yJx4a65c_clear_da8c8 cJx4a65c_clear_da8c8 4 none 0 0 0 [.ref (a 0 i)] S post := by
  have hX := h.list hl
  by_cases y : a 50 i = 0
  · unfold clX at hp
    rw [if_pos y] at hp
    have hz : lsz A i = 0 := by have := hX.2.2.2.2.1; omega
    have ht : a 23 i = tc 100 := by
      rcases hX.2.2.2.2.2.2 with e | e
      · exact e.2
      · omega
    rw [y, hz, ht] at hX
    exact m_clear0 hls hX hp
  · unfold clX at hp
    rw [if_neg y] at hp
    exact m_clear hls (hX.lo (by omega)) hp
theorem rmS_lop {b t i z : Nat} : lop S (rmS S b t i z) b (some t) := by
  unfold rmS mcS
  exact ((lop.rfl.sI (by decide)).sI (by decide)).sR
theorem rmS_LX {i k : Nat} (h : RA tc a A S) (hl : lv A 0 i) (hk : k < lsz A i) : LX tc (rmS S (a 0 i) (a 23 i) k (lsz A i)) (a 0 i) (a 23 i) (a 50 i) (lsz A i - 1) := by
  obtain ⟨h1, h2, h3, h4, h5, h6, h7⟩ := h.list hl
  exact ⟨h1, h2, h3, up2_at, by omega, h6, h7⟩
theorem rmS_el {i k : Nat} (h : RA tc a A S) (hl : lv A 0 i) {j : Nat} (hj : j < lsz A i - 1) : zR (rmS S (a 0 i) (a 23 i) k (lsz A i)) (a 23 i) j = some (a (lfam i) (lix i (if j < k then j else j + 1))) := by
  have e1 : zR (rmS S (a 0 i) (a 23 i) k (lsz A i)) (a 23 i) = rmR (zR S (a 23 i)) k (lsz A i) := va_up_self _ _ _
  rw [e1]
  unfold rmR
  by_cases y : j < k
  · rw [if_pos y, if_pos y, h.elem hl (by omega)]
  · rw [if_neg y, if_neg y, if_pos (by omega), h.elem hl (by omega)]
theorem own1_self {i : Nat} (h : RA tc a A S) (hl : lv A 0 i) (hk : 0 < lsz A i) : own1 a A S i (some (a 23 i)) := by
  intro x hx
  cases hx
  exact Or.inr ⟨rfl, by have := (h.list hl).2.2.2.2.1; omega⟩
end
