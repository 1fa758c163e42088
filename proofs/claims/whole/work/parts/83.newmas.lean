/-! ===== a new master ===== -/
section
variable {S : HS} {g a k n : Nat} {v : Int32} {w : Option Nat} {f : Nat → Int32} {h : Nat → Option Nat}
theorem hp_setI_zL : zL (setI S g a v) = zL S := rfl
theorem hp_setI_zK : zK (setI S g a v) = zK S := rfl
theorem hp_setI_zI : zI (setI S g a v) = up2 (zI S) g a v := rfl
theorem hp_setI_zP : zP (setI S g a v) = zP S := rfl
theorem hp_setI_zN : zN (setI S g a v) = zN S := rfl
theorem hp_setI_zA : zA (setI S g a v) = zA S := rfl
theorem hp_setI_zR : zR (setI S g a v) = zR S := rfl
theorem hp_setP_zL : zL (setP S g a w) = zL S := rfl
theorem hp_setP_zK : zK (setP S g a w) = zK S := rfl
theorem hp_setP_zI : zI (setP S g a w) = zI S := rfl
theorem hp_setP_zP : zP (setP S g a w) = up2 (zP S) g a w := rfl
theorem hp_setP_zN : zN (setP S g a w) = zN S := rfl
theorem hp_setP_zA : zA (setP S g a w) = zA S := rfl
theorem hp_setP_zR : zR (setP S g a w) = zR S := rfl
theorem hp_setA_zL : zL (setA S a f) = zL S := rfl
theorem hp_setA_zK : zK (setA S a f) = zK S := rfl
theorem hp_setA_zI : zI (setA S a f) = zI S := rfl
theorem hp_setA_zP : zP (setA S a f) = zP S := rfl
theorem hp_setA_zN : zN (setA S a f) = zN S := rfl
theorem hp_setA_zA : zA (setA S a f) = va_up (zA S) a f := rfl
theorem hp_setA_zR : zR (setA S a f) = zR S := rfl
theorem hp_newO_zL : zL (newO S a k) = zL S ++ [a] := rfl
theorem hp_newO_zK : zK (newO S a k) = va_up (zK S) a k := rfl
theorem hp_newO_zI : zI (newO S a k) = fun g b => if b = a then 0 else zI S g b := rfl
theorem hp_newO_zP : zP (newO S a k) = fun g b => if b = a then none else zP S g b := rfl
theorem hp_newO_zN : zN (newO S a k) = zN S := rfl
theorem hp_newO_zA : zA (newO S a k) = zA S := rfl
theorem hp_newO_zR : zR (newO S a k) = zR S := rfl
theorem hp_newA_zL : zL (newA S a k n) = zL S ++ [a] := rfl
theorem hp_newA_zK : zK (newA S a k n) = va_up (zK S) a k := rfl
theorem hp_newA_zI : zI (newA S a k n) = zI S := rfl
theorem hp_newA_zP : zP (newA S a k n) = zP S := rfl
theorem hp_newA_zN : zN (newA S a k n) = va_up (zN S) a n := rfl
theorem hp_newA_zA : zA (newA S a k n) = va_up (zA S) a (fun _ => 0) := rfl
theorem hp_newA_zR : zR (newA S a k n) = va_up (zR S) a (fun _ => none) := rfl
theorem hp_setR_zL : zL (setR S a h) = zL S := rfl
theorem hp_setR_zK : zK (setR S a h) = zK S := rfl
theorem hp_setR_zI : zI (setR S a h) = zI S := rfl
theorem hp_setR_zP : zP (setR S a h) = zP S := rfl
theorem hp_setR_zN : zN (setR S a h) = zN S := rfl
theorem hp_setR_zA : zA (setR S a h) = zA S := rfl
theorem hp_setR_zR : zR (setR S a h) = va_up (zR S) a h := rfl
end
def kp (T T' : HS) (q c : Nat) : Prop := ∀ x, x ∈ zL T → x ∈ zL T' ∧ zK T' x = zK T x ∧ zN T' x = zN T x ∧ zA T' x = zA T x ∧ zR T' x = zR T x ∧ ∀ g, ¬ (x = q ∧ g = c) → zI T' g x = zI T g x ∧ zP T' g x = zP T g x
def MAs (S0 T : HS) (q e b r : Nat) : Prop := hext S0 T ∧ q ∈ zL T ∧ zK T q = 5 ∧ q ∉ zL S0 ∧ zI T 320 q = nI e ∧ zI T 321 q = nI b ∧ zP T 322 q = some r ∧ zI T 328 q = 0 ∧ zI T 329 q = 0 ∧ zI T 330 q = 0 ∧ zI T 331 q = 0
def MLs (tc : Nat → ClassId) (S0 T : HS) (q j l : Nat) : Prop := l ∈ zL T ∧ l ∉ zL S0 ∧ l ≠ q ∧ zK T l = 0 ∧ zP T 1 l = some (tc 100) ∧ zI T 2 l = nI 0 ∧ zP T (320 + j) q = some l
def MRs (S0 T : HS) (q j v n : Nat) (x : Int32) : Prop := v ∈ zL T ∧ v ∉ zL S0 ∧ v ≠ q ∧ zK T v = 20 ∧ zN T v = n ∧ (∀ k, k < n → zA T v k = x) ∧ zP T (320 + j) q = some v
section
variable {tc : Nat → ClassId} {S0 T T' : HS} {q e b r c : Nat}
theorem kp.MAs (h : kp T T' q c) (hx : hext S0 T') (hc : 322 < c ∧ c < 328) (hm : MAs S0 T q e b r) : MAs S0 T' q e b r := by
  obtain ⟨m1, m2, m3, m4, m5, m6, m7, m8, m9, m10, m11⟩ := hm
  obtain ⟨a1, a2, a3, a4, a5, a6⟩ := h q m2
  exact ⟨hx, a1, a2.trans m3, m4, (a6 _ (by omega)).1.trans m5, (a6 _ (by omega)).1.trans m6, (a6 _ (by omega)).2.trans m7, (a6 _ (by omega)).1.trans m8, (a6 _ (by omega)).1.trans m9, (a6 _ (by omega)).1.trans m10, (a6 _ (by omega)).1.trans m11⟩
theorem kp.MLs (h : kp T T' q c) {j l : Nat} (hq : q ∈ zL T) (hc : 322 < c ∧ c ≠ 320 + j) (hm : MLs tc S0 T q j l) : MLs tc S0 T' q j l := by
  obtain ⟨m1, m2, m3, m4, m5, m6, m7⟩ := hm
  obtain ⟨a1, a2, a3, a4, a5, a6⟩ := h l m1
  exact ⟨a1, m2, m3, a2.trans m4, (a6 _ (by omega)).2.trans m5, (a6 _ (by omega)).1.trans m6, ((h q hq).2.2.2.2.2 _ (by omega)).2.trans m7⟩
theorem kp.MRs (h : kp T T' q c) {j v n : Nat} {x : Int32} (hq : q ∈ zL T) (hc : 322 < c ∧ c ≠ 320 + j) (hm : MRs S0 T q j v n x) : MRs S0 T' q j v n x := by
  obtain ⟨m1, m2, m3, m4, m5, m6, m7⟩ := hm
  obtain ⟨a1, a2, a3, a4, a5, a6⟩ := h v m1
  exact ⟨a1, m2, m3, a2.trans m4, a3.trans m5, fun k hk => by rw [a4]; exact m6 k hk, ((h q hq).2.2.2.2.2 _ (by omega)).2.trans m7⟩
/-- a new list at l, held by the field c of q -/
theorem nl_kp {l : Nat} {z : Option Nat} (hl : l ∉ zL T) : kp T (setP (setP (setI (newO T l 0) 0 l (nI 0)) 1 l z) c q (some l)) q c := fun x hx => by
  have hne : x ≠ l := fun y => hl (y ▸ hx)
  refine ⟨List.mem_append_left _ hx, va_up_ne _ _ hne, rfl, rfl, rfl, fun g hg => ⟨?_, ?_⟩⟩
  · simp only [hp_setI_zL, hp_setI_zK, hp_setI_zI, hp_setI_zP, hp_setI_zN, hp_setI_zA, hp_setI_zR, hp_setP_zL, hp_setP_zK, hp_setP_zI, hp_setP_zP, hp_setP_zN, hp_setP_zA, hp_setP_zR, hp_setA_zL, hp_setA_zK, hp_setA_zI, hp_setA_zP, hp_setA_zN, hp_setA_zA, hp_setA_zR, hp_newO_zL, hp_newO_zK, hp_newO_zI, hp_newO_zP, hp_newO_zN, hp_newO_zA, hp_newO_zR, hp_newA_zL, hp_newA_zK, hp_newA_zI, hp_newA_zP, hp_newA_zN, hp_newA_zA, hp_newA_zR, hp_setR_zL, hp_setR_zK, hp_setR_zI, hp_setR_zP, hp_setR_zN, hp_setR_zA, hp_setR_zR, up2, hne, and_false, if_false]
  · simp only [hp_setI_zL, hp_setI_zK, hp_setI_zI, hp_setI_zP, hp_setI_zN, hp_setI_zA, hp_setI_zR, hp_setP_zL, hp_setP_zK, hp_setP_zI, hp_setP_zP, hp_setP_zN, hp_setP_zA, hp_setP_zR, hp_setA_zL, hp_setA_zK, hp_setA_zI, hp_setA_zP, hp_setA_zN, hp_setA_zA, hp_setA_zR, hp_newO_zL, hp_newO_zK, hp_newO_zI, hp_newO_zP, hp_newO_zN, hp_newO_zA, hp_newO_zR, hp_newA_zL, hp_newA_zK, hp_newA_zI, hp_newA_zP, hp_newA_zN, hp_newA_zA, hp_newA_zR, hp_setR_zL, hp_setR_zK, hp_setR_zI, hp_setR_zP, hp_setR_zN, hp_setR_zA, hp_setR_zR, up2, hne, and_false, if_false]
    rw [if_neg (fun y => hg ⟨y.2, y.1⟩)]
theorem nl_new {j l : Nat} (hl : l ∉ zL T) (hq : q ∈ zL T) (hx : hext S0 T) : MLs tc S0 (setP (setP (setI (newO T l 0) 0 l (nI 0)) 1 l (some (tc 100))) (320 + j) q (some l)) q j l := by
  have hne : l ≠ q := fun y => hl (y ▸ hq)
  refine ⟨List.mem_append_right _ (List.mem_singleton.mpr rfl), fun y => hl (hx l y).1, hne, va_up_self _ _ _, ?_, ?_, ?_⟩
  · simp only [hp_setI_zL, hp_setI_zK, hp_setI_zI, hp_setI_zP, hp_setI_zN, hp_setI_zA, hp_setI_zR, hp_setP_zL, hp_setP_zK, hp_setP_zI, hp_setP_zP, hp_setP_zN, hp_setP_zA, hp_setP_zR, hp_setA_zL, hp_setA_zK, hp_setA_zI, hp_setA_zP, hp_setA_zN, hp_setA_zA, hp_setA_zR, hp_newO_zL, hp_newO_zK, hp_newO_zI, hp_newO_zP, hp_newO_zN, hp_newO_zA, hp_newO_zR, hp_newA_zL, hp_newA_zK, hp_newA_zI, hp_newA_zP, hp_newA_zN, hp_newA_zA, hp_newA_zR, hp_setR_zL, hp_setR_zK, hp_setR_zI, hp_setR_zP, hp_setR_zN, hp_setR_zA, hp_setR_zR, up2, hne, and_false, if_false, and_self, if_true]
  · simp [hp_setI_zL, hp_setI_zK, hp_setI_zI, hp_setI_zP, hp_setI_zN, hp_setI_zA, hp_setI_zR, hp_setP_zL, hp_setP_zK, hp_setP_zI, hp_setP_zP, hp_setP_zN, hp_setP_zA, hp_setP_zR, hp_setA_zL, hp_setA_zK, hp_setA_zI, hp_setA_zP, hp_setA_zN, hp_setA_zA, hp_setA_zR, hp_newO_zL, hp_newO_zK, hp_newO_zI, hp_newO_zP, hp_newO_zN, hp_newO_zA, hp_newO_zR, hp_newA_zL, hp_newA_zK, hp_newA_zI, hp_newA_zP, hp_newA_zN, hp_newA_zA, hp_newA_zR, hp_setR_zL, hp_setR_zK, hp_setR_zI, hp_setR_zP, hp_setR_zN, hp_setR_zA, hp_setR_zR, up2, nI_0]
  · simp only [hp_setI_zL, hp_setI_zK, hp_setI_zI, hp_setI_zP, hp_setI_zN, hp_setI_zA, hp_setI_zR, hp_setP_zL, hp_setP_zK, hp_setP_zI, hp_setP_zP, hp_setP_zN, hp_setP_zA, hp_setP_zR, hp_setA_zL, hp_setA_zK, hp_setA_zI, hp_setA_zP, hp_setA_zN, hp_setA_zA, hp_setA_zR, hp_newO_zL, hp_newO_zK, hp_newO_zI, hp_newO_zP, hp_newO_zN, hp_newO_zA, hp_newO_zR, hp_newA_zL, hp_newA_zK, hp_newA_zI, hp_newA_zP, hp_newA_zN, hp_newA_zA, hp_newA_zR, hp_setR_zL, hp_setR_zK, hp_setR_zI, hp_setR_zP, hp_setR_zN, hp_setR_zA, hp_setR_zR, up2, and_self, if_true]
theorem nl_hext {l : Nat} {z : Option Nat} (hl : l ∉ zL T) (hq : q ∉ zL S0) (hx : hext S0 T) : hext S0 (setP (setP (setI (newO T l 0) 0 l (nI 0)) 1 l z) c q (some l)) := by
  have hl0 : l ∉ zL S0 := fun y => hl (hx l y).1
  exact (((hx.newO hl0).setI hl0).setP hl0).setP hq
/-- a new array of numbers -/
theorem na_kp {v n : Nat} (hl : v ∉ zL T) : kp T (setP (newA T v 20 n) c q (some v)) q c := fun x hx => by
  have hne : x ≠ v := fun y => hl (y ▸ hx)
  refine ⟨List.mem_append_left _ hx, va_up_ne _ _ hne, va_up_ne _ _ hne, va_up_ne _ _ hne, va_up_ne _ _ hne, fun g hg => ⟨rfl, ?_⟩⟩
  simp only [hp_setI_zL, hp_setI_zK, hp_setI_zI, hp_setI_zP, hp_setI_zN, hp_setI_zA, hp_setI_zR, hp_setP_zL, hp_setP_zK, hp_setP_zI, hp_setP_zP, hp_setP_zN, hp_setP_zA, hp_setP_zR, hp_setA_zL, hp_setA_zK, hp_setA_zI, hp_setA_zP, hp_setA_zN, hp_setA_zA, hp_setA_zR, hp_newO_zL, hp_newO_zK, hp_newO_zI, hp_newO_zP, hp_newO_zN, hp_newO_zA, hp_newO_zR, hp_newA_zL, hp_newA_zK, hp_newA_zI, hp_newA_zP, hp_newA_zN, hp_newA_zA, hp_newA_zR, hp_setR_zL, hp_setR_zK, hp_setR_zI, hp_setR_zP, hp_setR_zN, hp_setR_zA, hp_setR_zR, up2]
  rw [if_neg (fun y => hg ⟨y.2, y.1⟩)]
theorem na_new {j v n : Nat} (hl : v ∉ zL T) (hq : q ∈ zL T) (hx : hext S0 T) : MRs S0 (setP (newA T v 20 n) (320 + j) q (some v)) q j v n 0 := by
  have hne : v ≠ q := fun y => hl (y ▸ hq)
  refine ⟨List.mem_append_right _ (List.mem_singleton.mpr rfl), fun y => hl (hx v y).1, hne, va_up_self _ _ _, va_up_self _ _ _, fun k _ => ?_, ?_⟩
  · show va_up (zA T) v (fun _ => 0) v k = 0
    rw [va_up_self]
  · simp only [hp_setI_zL, hp_setI_zK, hp_setI_zI, hp_setI_zP, hp_setI_zN, hp_setI_zA, hp_setI_zR, hp_setP_zL, hp_setP_zK, hp_setP_zI, hp_setP_zP, hp_setP_zN, hp_setP_zA, hp_setP_zR, hp_setA_zL, hp_setA_zK, hp_setA_zI, hp_setA_zP, hp_setA_zN, hp_setA_zA, hp_setA_zR, hp_newO_zL, hp_newO_zK, hp_newO_zI, hp_newO_zP, hp_newO_zN, hp_newO_zA, hp_newO_zR, hp_newA_zL, hp_newA_zK, hp_newA_zI, hp_newA_zP, hp_newA_zN, hp_newA_zA, hp_newA_zR, hp_setR_zL, hp_setR_zK, hp_setR_zI, hp_setR_zP, hp_setR_zN, hp_setR_zA, hp_setR_zR, up2, and_self, if_true]
theorem na_hext {v n : Nat} (hl : v ∉ zL T) (hq : q ∉ zL S0) (hx : hext S0 T) : hext S0 (setP (newA T v 20 n) c q (some v)) := (hx.newA (fun y => hl (hx v y).1)).setP hq
end
/-- a new master stands: its lists b1, b2, its arrays v1, v2 -/
def MT (tc : Nat → ClassId) (S0 T : HS) (q e b r b1 b2 v1 v2 f : Nat) : Prop := MAs S0 T q e b r ∧ MLs tc S0 T q 3 b1 ∧ MLs tc S0 T q 4 b2 ∧ MRs S0 T q 5 v1 16 0 ∧ MRs S0 T q 6 v2 f (oI 0) ∧ zI T 327 q = bI true ∧ b1 ≠ b2 ∧ v1 ≠ v2
theorem MT_end {tc : Nat → ClassId} {S0 T : HS} {q e b r b1 b2 v1 v2 f : Nat} (hm : MAs S0 T q e b r) (h1 : MLs tc S0 T q 3 b1) (h2 : MLs tc S0 T q 4 b2) (h3 : MRs S0 T q 5 v1 16 0) (h4 : MRs S0 T q 6 v2 f 0) (n1 : b1 ≠ b2) (n2 : v1 ≠ v2) : MT tc S0 (setI (flF T v2 (oI 0) f) (64 * 5 + 7) q (bI true)) q e b r b1 b2 v1 v2 f := by
  obtain ⟨m1, m2, m3, m4, m5, m6, m7, m8, m9, m10, m11⟩ := hm
  have hI : ∀ g x, ¬ (g = 327 ∧ x = q) → zI (setI (flF T v2 (oI 0) f) (64 * 5 + 7) q (bI true)) g x = zI T g x := fun g x hg => by
    show up2 (zI T) (64 * 5 + 7) q (bI true) g x = _
    unfold up2
    rw [if_neg hg]
  have hA : ∀ x, x ≠ v2 → zA (setI (flF T v2 (oI 0) f) (64 * 5 + 7) q (bI true)) x = zA T x := fun x hx => va_up_ne _ _ hx
  refine ⟨⟨(m1.setA h4.2.1).setI m4, m2, m3, m4, (hI _ _ (by omega)).trans m5, (hI _ _ (by omega)).trans m6, m7, (hI _ _ (by omega)).trans m8, (hI _ _ (by omega)).trans m9, (hI _ _ (by omega)).trans m10, (hI _ _ (by omega)).trans m11⟩, ?_, ?_, ?_, ?_, up2_at, n1, n2⟩
  · obtain ⟨a1, a2, a3, a4, a5, a6, a7⟩ := h1
    exact ⟨a1, a2, a3, a4, a5, (hI _ _ (by omega)).trans a6, a7⟩
  · obtain ⟨a1, a2, a3, a4, a5, a6, a7⟩ := h2
    exact ⟨a1, a2, a3, a4, a5, (hI _ _ (by omega)).trans a6, a7⟩
  · obtain ⟨a1, a2, a3, a4, a5, a6, a7⟩ := h3
    exact ⟨a1, a2, a3, a4, a5, fun k hk => by rw [hA v1 n2]; exact a6 k hk, a7⟩
  · obtain ⟨a1, a2, a3, a4, a5, a6, a7⟩ := h4
    refine ⟨a1, a2, a3, a4, a5, fun k hk => ?_, a7⟩
    show va_up (zA T) v2 _ v2 k = _
    rw [va_up_self, if_pos hk]
theorem MA_0 {S0 S : HS} {q e b r : Nat} (hx : hext S0 S) (hq1 : q ∈ zL S) (hq2 : zK S q = 5) (hq0 : q ∉ zL S0) (z8 : zI S 328 q = 0) (z9 : zI S 329 q = 0) (z10 : zI S 330 q = 0) (z11 : zI S 331 q = 0) : MAs S0 (setP (setI (setI S (64 * 5 + 0) q (nI e)) (64 * 5 + 1) q (nI b)) (64 * 5 + 2) q (some r)) q e b r := by
  have hI : ∀ g x, ¬ (g = 320 ∧ x = q) → ¬ (g = 321 ∧ x = q) → zI (setP (setI (setI S (64 * 5 + 0) q (nI e)) (64 * 5 + 1) q (nI b)) (64 * 5 + 2) q (some r)) g x = zI S g x := fun g x h1 h2 => by
    show up2 (up2 (zI S) (64 * 5 + 0) q (nI e)) (64 * 5 + 1) q (nI b) g x = _
    unfold up2
    rw [if_neg h2, if_neg h1]
  refine ⟨((hx.setI hq0).setI hq0).setP hq0, hq1, hq2, hq0, ?_, up2_at, up2_at, (hI _ _ (by omega) (by omega)).trans z8, (hI _ _ (by omega) (by omega)).trans z9, (hI _ _ (by omega) (by omega)).trans z10, (hI _ _ (by omega) (by omega)).trans z11⟩
  show up2 (up2 (zI S) (64 * 5 + 0) q (nI e)) (64 * 5 + 1) q (nI b) 320 q = _
  unfold up2
  rw [if_neg (by omega), if_pos ⟨rfl, rfl⟩]
set_option maxRecDepth 100000 in
set_option maxHeartbeats 4000000 in
theorem c_init5 {l : Launch} {D : va_G} {tc : Nat → ClassId} (hls : l.stackTraces = false) {S0 S : HS} {q e f b r : Nat} (hx : hext S0 S) (hq1 : q ∈ zL S) (hq2 : zK S q = 5) (hq0 : q ∉ zL S0) (z8 : zI S 328 q = 0) (z9 : zI S 329 q = 0) (z10 : zI S 330 q = 0) (z11 : zI S 331 q = 0) (hf : f ≤ 3) {post : Option Value → HS → Prop} (hp : ∀ (S9 : HS) (b1 b2 v1 v2 : Nat), MT tc S0 S9 q e b r b1 b2 v1 v2 f → post none S9) : CM l D tc yX5_init cX5_init 5 none 4 4 (22 + f) [.ref q, .int (nI e), .int (nI f), .int (nI b), .ref r] S post := by
  refine CM.of hls (by decide +kernel) (by simp [Value.category]) (Nat.le_of_ble_eq_true rfl) (fun A0 p e9 s m args below meth c sz h hr hnm hA => ?_)
  refine V.eqL (ls' := [some (.ref q), some (.int (nI e)), some (.int (nI f)), some (.int (nI b)), some (.ref r)]) rfl ?_
  refine V.blk h [(.aload_n 0, 1)] (by decide +kernel) (pc' := 1) (ls' := [some (.ref q), some (.int (nI e)), some (.int (nI f)), some (.int (nI b)), some (.ref r)]) (st' := [.ref q]) rfl rfl (Nat.le_of_ble_eq_true rfl) ?_
  refine V.objInit h wm_RX5_3 wi_objectInit wc_objectInit (by decide +kernel) (Nat.le_of_ble_eq_true rfl) (Nat.le_of_ble_eq_true rfl) ?_
  refine V.blk h [(.aload_n 0, 1), (.iload_n 1, 1)] (by decide +kernel) (pc' := 6) (ls' := [some (.ref q), some (.int (nI e)), some (.int (nI f)), some (.int (nI b)), some (.ref r)]) (st' := [.int (nI e), .ref q]) rfl rfl (Nat.le_of_ble_eq_true rfl) ?_
  refine V.putIF (S := S) h hnm cls_5 (j := 0) rfl hq1 hq2 wf_RX5_9 rfl rfl rfl rfl (by decide +kernel) ?_
  refine V.blk h [(.aload_n 0, 1), (.iload_n 3, 1)] (by decide +kernel) (pc' := 11) (ls' := [some (.ref q), some (.int (nI e)), some (.int (nI f)), some (.int (nI b)), some (.ref r)]) (st' := [.int (nI b), .ref q]) rfl rfl (Nat.le_of_ble_eq_true rfl) ?_
  refine V.putIF (S := (setI S (64 * 5 + 0) q (nI e))) h hnm cls_5 (j := 1) rfl hq1 hq2 wf_RX5_15 rfl rfl rfl rfl (by decide +kernel) ?_
  refine V.blk h [(.aload_n 0, 1), (.aload 4, 2)] (by decide +kernel) (pc' := 17) (ls' := [some (.ref q), some (.int (nI e)), some (.int (nI f)), some (.int (nI b)), some (.ref r)]) (st' := [.ref r, .ref q]) rfl rfl (Nat.le_of_ble_eq_true rfl) ?_
  refine V.putPF (v := some r) (S := (setI (setI S (64 * 5 + 0) q (nI e)) (64 * 5 + 1) q (nI b))) h hnm cls_5 (j := 2) rfl hq1 hq2 wf_RX5_18 rfl rfl rfl rfl (by decide +kernel) ?_
  refine V.gen (P := fun T => MAs S0 T q e b r) (?_ : MAs S0 (setP (setI (setI S (64 * 5 + 0) q (nI e)) (64 * 5 + 1) q (nI b)) (64 * 5 + 2) q (some r)) q e b r) (fun T0 hT0 => ?_)
  · exact MA_0 hx hq1 hq2 hq0 z8 z9 z10 z11
  refine V.blk h [(.aload_n 0, 1)] (by decide +kernel) (pc' := 21) (ls' := [some (.ref q), some (.int (nI e)), some (.int (nI f)), some (.int (nI b)), some (.ref r)]) (st' := [.ref q]) rfl rfl (Nat.le_of_ble_eq_true rfl) ?_
  refine V.new h cls_0 wl_RX5_22 wz_RJx4a65c wn_RJx4a65c (by show 0 + 1 ≤ 4; omega) (by show 0 + 3 ≤ 22 + f; omega) (by decide +kernel) (fun b1 hb1 => ?_)
  refine V.blk h [(.dup, 1)] (by decide +kernel) (pc' := 25) (ls' := [some (.ref q), some (.int (nI e)), some (.int (nI f)), some (.int (nI b)), some (.ref r)]) (st' := [.ref b1, .ref b1, .ref q]) rfl rfl (Nat.le_of_ble_eq_true rfl) ?_
  refine V.callI h (np := 0) (st := [.ref b1, .ref q]) (m_newlist hls (b := b1) (S := newO T0 b1 0) (List.mem_append_right _ (List.mem_singleton.mpr rfl)) (va_up_self _ _ _) (post := fun v S9 => v = none ∧ setP (setI (newO T0 b1 0) 0 b1 (nI 0)) 1 b1 (some (tc 100)) = S9) ⟨rfl, rfl⟩) wc_Jx4a65c_init_da8c8 wn_RJx4a65c (Or.inl wm_RX5_24) wi_Jx4a65c_init_da8c8 rfl (by decide +kernel) rfl (Nat.le_of_ble_eq_true rfl) (Nat.le_of_ble_eq_true rfl) (Nat.le_of_ble_eq_true rfl) (by show 3 + 0 ≤ 22 + f; omega) (by simp [Value.category]) (by decide +kernel) rfl (fun v S9 q9 => ?_)
  obtain ⟨rfl, hS9⟩ := q9
  subst hS9
  refine V.eq (S' := setP (setI (newO T0 b1 0) 0 b1 (nI 0)) 1 b1 (some (tc 100))) (ls' := [some (.ref q), some (.int (nI e)), some (.int (nI f)), some (.int (nI b)), some (.ref r)]) (st' := [.ref b1, .ref q]) rfl rfl rfl ?_
  have nq_b1 : q ≠ b1 := fun y => hb1 (y ▸ hT0.2.1)
  refine V.putPF (v := some b1) (S := setP (setI (newO T0 b1 0) 0 b1 (nI 0)) 1 b1 (some (tc 100))) h hnm cls_5 (j := 3) rfl (List.mem_append_left _ hT0.2.1) ((va_up_ne _ _ nq_b1).trans hT0.2.2.1) wf_RX5_25 rfl rfl rfl rfl (by decide +kernel) ?_
  have hkT1 : kp T0 (setP (setP (setI (newO T0 b1 0) 0 b1 (nI 0)) 1 b1 (some (tc 100))) (64 * 5 + 3) q (some b1)) q (64 * 5 + 3) := nl_kp hb1
  refine V.gen (P := fun T => MAs S0 T q e b r ∧ MLs tc S0 T q 3 b1) ⟨hkT1.MAs (nl_hext hb1 hq0 hT0.1) (by omega) hT0, nl_new hb1 hT0.2.1 hT0.1⟩ (fun T1 pT1 => ?_)
  clear hkT1
  obtain ⟨hT1, l3T1⟩ := pT1
  refine V.blk h [(.aload_n 0, 1)] (by decide +kernel) (pc' := 32) (ls' := [some (.ref q), some (.int (nI e)), some (.int (nI f)), some (.int (nI b)), some (.ref r)]) (st' := [.ref q]) rfl rfl (Nat.le_of_ble_eq_true rfl) ?_
  refine V.new h cls_0 wl_RX5_22 wz_RJx4a65c wn_RJx4a65c (by show 1 + 1 ≤ 4; omega) (by show 3 + 3 ≤ 22 + f; omega) (by decide +kernel) (fun b2 hb2 => ?_)
  refine V.blk h [(.dup, 1)] (by decide +kernel) (pc' := 36) (ls' := [some (.ref q), some (.int (nI e)), some (.int (nI f)), some (.int (nI b)), some (.ref r)]) (st' := [.ref b2, .ref b2, .ref q]) rfl rfl (Nat.le_of_ble_eq_true rfl) ?_
  refine V.callI h (np := 0) (st := [.ref b2, .ref q]) (m_newlist hls (b := b2) (S := newO T1 b2 0) (List.mem_append_right _ (List.mem_singleton.mpr rfl)) (va_up_self _ _ _) (post := fun v S9 => v = none ∧ setP (setI (newO T1 b2 0) 0 b2 (nI 0)) 1 b2 (some (tc 100)) = S9) ⟨rfl, rfl⟩) wc_Jx4a65c_init_da8c8 wn_RJx4a65c (Or.inl wm_RX5_24) wi_Jx4a65c_init_da8c8 rfl (by decide +kernel) rfl (Nat.le_of_ble_eq_true rfl) (Nat.le_of_ble_eq_true rfl) (Nat.le_of_ble_eq_true rfl) (by show 6 + 0 ≤ 22 + f; omega) (by simp [Value.category]) (by decide +kernel) rfl (fun v S9 q9 => ?_)
  obtain ⟨rfl, hS9⟩ := q9
  subst hS9
  refine V.eq (S' := setP (setI (newO T1 b2 0) 0 b2 (nI 0)) 1 b2 (some (tc 100))) (ls' := [some (.ref q), some (.int (nI e)), some (.int (nI f)), some (.int (nI b)), some (.ref r)]) (st' := [.ref b2, .ref q]) rfl rfl rfl ?_
  have nq_b2 : q ≠ b2 := fun y => hb2 (y ▸ hT1.2.1)
  refine V.putPF (v := some b2) (S := setP (setI (newO T1 b2 0) 0 b2 (nI 0)) 1 b2 (some (tc 100))) h hnm cls_5 (j := 4) rfl (List.mem_append_left _ hT1.2.1) ((va_up_ne _ _ nq_b2).trans hT1.2.2.1) wf_RX5_29 rfl rfl rfl rfl (by decide +kernel) ?_
  have hkT2 : kp T1 (setP (setP (setI (newO T1 b2 0) 0 b2 (nI 0)) 1 b2 (some (tc 100))) (64 * 5 + 4) q (some b2)) q (64 * 5 + 4) := nl_kp hb2
  refine V.gen (P := fun T => MAs S0 T q e b r ∧ (MLs tc S0 T q 3 b1) ∧ MLs tc S0 T q 4 b2 ∧ b1 ≠ b2) ⟨hkT2.MAs (nl_hext hb2 hq0 hT1.1) (by omega) hT1, hkT2.MLs hT1.2.1 (by omega) l3T1, nl_new hb2 hT1.2.1 hT1.1, (fun y => hb2 (y ▸ l3T1.1))⟩ (fun T2 pT2 => ?_)
  clear hkT2
  obtain ⟨hT2, l3T2, l4T2, hn12⟩ := pT2
  refine V.blk h [(.aload_n 0, 1), (.bipush 16, 2)] (by decide +kernel) (pc' := 45) (ls' := [some (.ref q), some (.int (nI e)), some (.int (nI f)), some (.int (nI b)), some (.ref r)]) (st' := [.int (nI 16), .ref q]) rfl rfl (Nat.le_of_ble_eq_true rfl) ?_
  refine V.newarr h 20 (Or.inl ⟨rfl, rfl⟩) (atype := .int) rfl wo_227 (M := 16) (by omega) (by show 2 + 1 ≤ 4; omega) (by show 6 + 16 ≤ 22 + f; omega) (by decide +kernel) (fun v1 hv1 => ?_)
  have nq_v1 : q ≠ v1 := fun y => hv1 (y ▸ hT2.2.1)
  refine V.putPF (v := some v1) (S := newA T2 v1 20 16) h hnm cls_5 (j := 5) rfl (List.mem_append_left _ hT2.2.1) ((va_up_ne _ _ nq_v1).trans hT2.2.2.1) wf_RX5_32 rfl rfl rfl rfl (by decide +kernel) ?_
  have hkT3 : kp T2 (setP (newA T2 v1 20 16) (64 * 5 + 5) q (some v1)) q (64 * 5 + 5) := na_kp hv1
  refine V.gen (P := fun T => MAs S0 T q e b r ∧ (MLs tc S0 T q 3 b1) ∧ (MLs tc S0 T q 4 b2) ∧ MRs S0 T q 5 v1 16 0) ⟨hkT3.MAs (na_hext hv1 hq0 hT2.1) (by omega) hT2, hkT3.MLs hT2.2.1 (by omega) l3T2, hkT3.MLs hT2.2.1 (by omega) l4T2, na_new hv1 hT2.2.1 hT2.1⟩ (fun T3 pT3 => ?_)
  clear hkT3
  obtain ⟨hT3, l3T3, l4T3, r5T3⟩ := pT3
  refine V.blk h [(.aload_n 0, 1), (.iconst 0, 1), (.iload_n 2, 1)] (by decide +kernel) (pc' := 53) (ls' := [some (.ref q), some (.int (nI e)), some (.int (nI f)), some (.int (nI b)), some (.ref r)]) (st' := [.int (nI f), .int (nI 0), .ref q]) rfl rfl (Nat.le_of_ble_eq_true rfl) ?_
  refine V.mmax h wm_RX5_36 (v := nI f) (mx_0n (by omega)) (by decide +kernel) (Nat.le_of_ble_eq_true rfl) (Nat.le_of_ble_eq_true rfl) (Nat.le_of_ble_eq_true rfl) (by show 6 + 16 ≤ 22 + f; omega) ?_
  refine V.newarr h 20 (Or.inl ⟨rfl, rfl⟩) (atype := .int) rfl wo_227 (M := f) (by omega) (by show 3 + 1 ≤ 4; omega) (by show 6 + 16 + f ≤ 22 + f; omega) (by decide +kernel) (fun v2 hv2 => ?_)
  have nq_v2 : q ≠ v2 := fun y => hv2 (y ▸ hT3.2.1)
  refine V.putPF (v := some v2) (S := newA T3 v2 20 f) h hnm cls_5 (j := 6) rfl (List.mem_append_left _ hT3.2.1) ((va_up_ne _ _ nq_v2).trans hT3.2.2.1) wf_RX5_42 rfl rfl rfl rfl (by decide +kernel) ?_
  have hkT4 : kp T3 (setP (newA T3 v2 20 f) (64 * 5 + 6) q (some v2)) q (64 * 5 + 6) := na_kp hv2
  refine V.gen (P := fun T => MAs S0 T q e b r ∧ (MLs tc S0 T q 3 b1) ∧ (MLs tc S0 T q 4 b2) ∧ (MRs S0 T q 5 v1 16 0) ∧ MRs S0 T q 6 v2 f 0 ∧ v1 ≠ v2) ⟨hkT4.MAs (na_hext hv2 hq0 hT3.1) (by omega) hT3, hkT4.MLs hT3.2.1 (by omega) l3T3, hkT4.MLs hT3.2.1 (by omega) l4T3, hkT4.MRs hT3.2.1 (by omega) r5T3, na_new hv2 hT3.2.1 hT3.1, (fun y => hv2 (y ▸ r5T3.1))⟩ (fun T4 pT4 => ?_)
  clear hkT4
  obtain ⟨hT4, l3T4, l4T4, r5T4, r6T4, hv12⟩ := pT4
  refine V.blk h [(.aload_n 0, 1)] (by decide +kernel) (pc' := 62) (ls' := [some (.ref q), some (.int (nI e)), some (.int (nI f)), some (.int (nI b)), some (.ref r)]) (st' := [.ref q]) rfl rfl (Nat.le_of_ble_eq_true rfl) ?_
  refine V.getP h cls_5 (j := 6) rfl hT4.2.1 hT4.2.2.1 (Or.inl wf_RX5_42) (by decide +kernel) (v := some v2) r6T4.2.2.2.2.2.2 ?_
  refine V.eq (S' := T4) (ls' := [some (.ref q), some (.int (nI e)), some (.int (nI f)), some (.int (nI b)), some (.ref r)]) (st' := [.ref v2]) rfl rfl rfl ?_
  refine V.m1 h (by decide +kernel) (Nat.le_of_ble_eq_true rfl) ?_
  refine V.callS h (np := 2) (st := []) (m_fill hls (a := v2) (M := f) (v := oI 0) (S := T4) r6T4.1 r6T4.2.2.2.1 r6T4.2.2.2.2.1 (by omega) (post := fun v S9 => v = none ∧ flF T4 v2 (oI 0) f = S9) ⟨rfl, rfl⟩) wc_J7_fill_53178 wn_RJ7 (Or.inl wm_RX5_45) wt_J7_fill_53178 (by decide +kernel) rfl (Nat.le_of_ble_eq_true rfl) (Nat.le_of_ble_eq_true rfl) (Nat.le_of_ble_eq_true rfl) (by show 6 + 16 + f + 0 ≤ 22 + f; omega) (by simp [Value.category]) (by decide +kernel) rfl (fun v S9 q9 => ?_)
  obtain ⟨rfl, hS9⟩ := q9
  subst hS9
  refine V.blk h [(.aload_n 0, 1), (.iconst 1, 1)] (by decide +kernel) (pc' := 71) (ls' := [some (.ref q), some (.int (nI e)), some (.int (nI f)), some (.int (nI b)), some (.ref r)]) (st' := [.int (nI 1), .ref q]) rfl rfl (Nat.le_of_ble_eq_true rfl) ?_
  refine V.top (v' := .int (bI true)) (by decide) ?_
  refine V.putI (S := flF T4 v2 (oI 0) f) h cls_5 (j := 7) rfl hT4.2.1 hT4.2.2.1 (Or.inl wf_RX5_51) rfl (bI_nar _) (bI_fit _) (by decide +kernel) ?_
  exact V.vret h hA hr (hp _ b1 b2 v1 v2 (MT_end hT4 l3T4 l4T4 r5T4 r6T4 hn12 hv12)) (by decide +kernel) (Nat.le_of_ble_eq_true rfl) (by show 6 + 16 + f ≤ 22 + f; omega)
