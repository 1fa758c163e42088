/-! ===== things that stand in a heap: objects, arrays; what a step leaves of them ===== -/
/-- all that was there is as it was, but the field c of q and the array r -/
def rl (T T' : HS) (q c : Nat) (r : Option Nat) : Prop := ∀ x, x ∈ zL T → x ∈ zL T' ∧ zK T' x = zK T x ∧ zN T' x = zN T x ∧ zA T' x = zA T x ∧ (r ≠ some x → zR T' x = zR T x) ∧ ∀ g, ¬ (x = q ∧ g = c) → zI T' g x = zI T g x ∧ zP T' g x = zP T g x
def ob (T : HS) (x k : Nat) (fi : List (Nat × Int32)) (fp : List (Nat × Option Nat)) : Prop := x ∈ zL T ∧ zK T x = k ∧ (∀ p ∈ fi, zI T p.1 x = p.2) ∧ ∀ p ∈ fp, zP T p.1 x = p.2
def ar (T : HS) (x k n m : Nat) (R : Nat → Option Nat) : Prop := x ∈ zL T ∧ zK T x = k ∧ zN T x = n ∧ ∀ j, j < m → zR T x j = R j
def ia (T : HS) (x n : Nat) (v : Int32) : Prop := x ∈ zL T ∧ zK T x = 20 ∧ zN T x = n ∧ ∀ j, j < n → zA T x j = v
section
variable {tc : Nat → ClassId} {S0 T T' : HS} {q c x k n m : Nat} {r : Option Nat} {fi : List (Nat × Int32)} {fp : List (Nat × Option Nat)} {R : Nat → Option Nat} {v : Int32}
theorem rl.ob (h : rl T T' q c r) (hm : ob T x k fi fp) (hs : x = q → (∀ p ∈ fi, p.1 ≠ c) ∧ ∀ p ∈ fp, p.1 ≠ c) : ob T' x k fi fp := by
  obtain ⟨m1, m2, m3, m4⟩ := hm
  obtain ⟨a1, a2, a3, a4, a5, a6⟩ := h x m1
  exact ⟨a1, a2.trans m2, fun p hp => (a6 p.1 (fun z => (hs z.1).1 p hp z.2)).1.trans (m3 p hp), fun p hp => (a6 p.1 (fun z => (hs z.1).2 p hp z.2)).2.trans (m4 p hp)⟩
theorem rl.ar (h : rl T T' q c r) (hm : ar T x k n m R) (hs : ∀ y, r = some y → zK T y ≠ k) : ar T' x k n m R := by
  obtain ⟨m1, m2, m3, m4⟩ := hm
  obtain ⟨a1, a2, a3, a4, a5, a6⟩ := h x m1
  exact ⟨a1, a2.trans m2, a3.trans m3, fun j hj => by rw [a5 (fun z => hs x z m2)]; exact m4 j hj⟩
theorem rl.ia (h : rl T T' q c r) (hm : ia T x n v) : ia T' x n v := by
  obtain ⟨m1, m2, m3, m4⟩ := hm
  obtain ⟨a1, a2, a3, a4, a5, a6⟩ := h x m1
  exact ⟨a1, a2.trans m2, a3.trans m3, fun j hj => by rw [a4]; exact m4 j hj⟩
theorem hext.rl (h : hext T T') : rl T T' 0 0 none := fun x hx => by
  obtain ⟨a1, a2, a3, a4, a5, a6, a7⟩ := h x hx
  exact ⟨a1, a2, a3, a4, fun _ => a6, fun g _ => a7 g⟩
theorem ob.mono {fi' : List (Nat × Int32)} {fp' : List (Nat × Option Nat)} (h : ob T x k fi fp) (h1 : ∀ p ∈ fi', p ∈ fi) (h2 : ∀ p ∈ fp', p ∈ fp) : ob T x k fi' fp' := ⟨h.1, h.2.1, fun p hp => h.2.2.1 p (h1 p hp), fun p hp => h.2.2.2 p (h2 p hp)⟩
theorem rl_setI : rl T (setI T c q v) q c none := fun x hx => ⟨hx, rfl, rfl, rfl, fun _ => rfl, fun g hg => ⟨by show up2 (zI T) c q v g x = _; unfold up2; rw [if_neg (fun z => hg ⟨z.2, z.1⟩)], rfl⟩⟩
theorem rl_setP {w : Option Nat} : rl T (setP T c q w) q c none := fun x hx => ⟨hx, rfl, rfl, rfl, fun _ => rfl, fun g hg => ⟨rfl, by show up2 (zP T) c q w g x = _; unfold up2; rw [if_neg (fun z => hg ⟨z.2, z.1⟩)]⟩⟩
theorem ob_setI (h : ob T q k fi fp) (hs : (∀ p ∈ fi, p.1 ≠ c) ∧ ∀ p ∈ fp, p.1 ≠ c) : ob (setI T c q v) q k ((c, v) :: fi) fp := by
  have h' := (rl_setI (T := T) (q := q) (c := c) (v := v)).ob h (fun _ => hs)
  refine ⟨h'.1, h'.2.1, fun p hp => ?_, h'.2.2.2⟩
  rcases List.mem_cons.mp hp with rfl | hp
  · exact up2_at
  · exact h'.2.2.1 p hp
theorem ob_setP {w : Option Nat} (h : ob T q k fi fp) (hs : (∀ p ∈ fi, p.1 ≠ c) ∧ ∀ p ∈ fp, p.1 ≠ c) : ob (setP T c q w) q k fi ((c, w) :: fp) := by
  have h' := (rl_setP (T := T) (q := q) (c := c) (w := w)).ob h (fun _ => hs)
  refine ⟨h'.1, h'.2.1, h'.2.2.1, fun p hp => ?_⟩
  rcases List.mem_cons.mp hp with rfl | hp
  · exact up2_at
  · exact h'.2.2.2 p hp
theorem ob_new (h1 : ∀ p ∈ fi, p.2 = 0) (h2 : ∀ p ∈ fp, p.2 = none) : ob (newO T x k) x k fi fp := by
  refine ⟨List.mem_append_right _ (List.mem_singleton.mpr rfl), va_up_self _ _ _, fun p hp => ?_, fun p hp => ?_⟩
  · rw [h1 p hp]
    exact if_pos rfl
  · rw [h2 p hp]
    exact if_pos rfl
/-- a new list at l, held by the field c of q -/
theorem ol_rl {l : Nat} {z : Option Nat} (hl : l ∉ zL T) : rl T (setP (setP (setI (newO T l 0) 0 l (nI 0)) 1 l z) c q (some l)) q c none := fun x hx => by
  obtain ⟨a1, a2, a3, a4, a5, a6⟩ := nl_kp (q := q) (c := c) (z := z) hl x hx
  exact ⟨a1, a2, a3, a4, fun _ => a5, a6⟩
theorem ol_new {l : Nat} (hl : l ∉ zL T) (hq : q ∈ zL T) : ob (setP (setP (setI (newO T l 0) 0 l (nI 0)) 1 l (some (tc 100))) c q (some l)) l 0 [(2, nI 0)] [(1, some (tc 100))] := by
  have hne : l ≠ q := fun y => hl (y ▸ hq)
  refine ⟨List.mem_append_right _ (List.mem_singleton.mpr rfl), va_up_self _ _ _, fun p hp => ?_, fun p hp => ?_⟩
  · rw [List.mem_singleton.mp hp]
    show up2 (fun g b => if b = l then 0 else zI T g b) 0 l (nI 0) 2 l = nI 0
    simp [up2, nI_0]
  · rw [List.mem_singleton.mp hp]
    show up2 (up2 (fun g b => if b = l then none else zP T g b) 1 l (some (tc 100))) c q (some l) 1 l = some (tc 100)
    simp [up2, hne]
/-- a new array of references, held by the field c of q -/
theorem oa_rl {a n ka : Nat} (hl : a ∉ zL T) : rl T (setP (newA T a ka n) c q (some a)) q c none := fun x hx => by
  have hne : x ≠ a := fun y => hl (y ▸ hx)
  refine ⟨List.mem_append_left _ hx, va_up_ne _ _ hne, va_up_ne _ _ hne, va_up_ne _ _ hne, fun _ => va_up_ne _ _ hne, fun g hg => ⟨rfl, ?_⟩⟩
  show up2 (zP T) c q (some a) g x = _
  unfold up2
  rw [if_neg (fun z => hg ⟨z.2, z.1⟩)]
theorem oa_new {a n ka m : Nat} : ar (setP (newA T a ka n) c q (some a)) a ka n m (fun _ => none) := ⟨List.mem_append_right _ (List.mem_singleton.mpr rfl), va_up_self _ _ _, va_up_self _ _ _, fun j _ => by show va_up (zR T) a (fun _ => none) a j = none; rw [va_up_self]⟩
theorem ar.none (h : ar T x k n m R) {R' : Nat → Option Nat} : ar T x k n 0 R' := ⟨h.1, h.2.1, h.2.2.1, fun j hj => absurd hj (Nat.not_lt_zero _)⟩
/-- a place of an array is written -/
theorem ra_rl {a i : Nat} {w : Option Nat} : rl T (setR T a (va_up (zR T a) i w)) 0 0 (some a) := fun x hx => ⟨hx, rfl, rfl, rfl, fun h => va_up_ne _ _ (fun y => h (by rw [y])), fun _ _ => ⟨rfl, rfl⟩⟩
theorem ra_new {a i : Nat} {w : Nat} {f : Nat → Nat} (h : ar T a k n i (fun j => some (f j))) : ar (setR T a (va_up (zR T a) i (some w))) a k n (i + 1) (fun j => some (va_up f i w j)) := by
  obtain ⟨h1, h2, h3, h4⟩ := h
  refine ⟨h1, h2, h3, fun j hj => ?_⟩
  show va_up (zR T) a (va_up (zR T a) i (some w)) a j = some (va_up f i w j)
  rw [va_up_self]
  by_cases y : j = i
  · rw [y, va_up_self, va_up_self]
  · rw [va_up_ne _ _ y, va_up_ne _ _ y]
    exact h4 j (by omega)
/-- a list's change -/
theorem lop.ob {b t : Nat} (h : lop T T' b (some t)) (hm : ob T x k fi fp) (hs : x ≠ b ∨ ((∀ p ∈ fi, 3 ≤ p.1) ∧ ∀ p ∈ fp, 3 ≤ p.1)) : ob T' x k fi fp := by
  obtain ⟨m1, m2, m3, m4⟩ := hm
  obtain ⟨a1, a2, a3, a4, a5, a6, a7⟩ := h x m1
  exact ⟨a1, a2.trans m2, fun p hp => (a7 p.1 (hs.elim Or.inr (fun z => Or.inl (z.1 p hp)))).1.trans (m3 p hp), fun p hp => (a7 p.1 (hs.elim Or.inr (fun z => Or.inl (z.2 p hp)))).2.trans (m4 p hp)⟩
theorem lop.ar {b t : Nat} (h : lop T T' b (some t)) (ht : t ∉ zL T) (hm : ar T x k n m R) : ar T' x k n m R := by
  obtain ⟨m1, m2, m3, m4⟩ := hm
  obtain ⟨a1, a2, a3, a4, a5, a6, a7⟩ := h x m1
  exact ⟨a1, a2.trans m2, a3.trans m3, fun j hj => by rw [a6 (fun z => ht (by cases z; exact m1))]; exact m4 j hj⟩
theorem lop.ia {b t : Nat} (h : lop T T' b (some t)) (hm : ia T x n v) : ia T' x n v := by
  obtain ⟨m1, m2, m3, m4⟩ := hm
  obtain ⟨a1, a2, a3, a4, a5, a6, a7⟩ := h x m1
  exact ⟨a1, a2.trans m2, a3.trans m3, fun j hj => by rw [a4]; exact m4 j hj⟩
/-- the first thing into a new list -/
theorem fst_add {b r a : Nat} (hb : ob T b 0 [(2, nI 0)] [(1, some (tc 100))]) (hr : r ∉ zL T) : lop T (adS (grS (mcS T b) b (tc 100) 0 r) b r a 0) b (some r) ∧ ob (adS (grS (mcS T b) b (tc 100) 0 r) b r a 0) b 0 [(2, nI 1)] [(1, some r)] ∧ ar (adS (grS (mcS T b) b (tc 100) 0 r) b r a 0) r 23 10 1 (fun _ => some a) := by
  have hbr : b ≠ r := fun z => hr (z ▸ hb.1)
  refine ⟨?_, ⟨List.mem_append_left _ hb.1, (va_up_ne _ _ hbr).trans hb.2.1, fun p hp => ?_, fun p hp => ?_⟩, List.mem_append_right _ (List.mem_singleton.mpr rfl), va_up_self _ _ _, va_up_self _ _ _, fun j hj => ?_⟩
  · unfold adS grS cpA mcS
    exact (((((lop.rfl.sI (by decide)).nA hr).sR).sP (by decide)).sR).sI (by decide)
  · rw [List.mem_singleton.mp hp]
    exact up2_at
  · rw [List.mem_singleton.mp hp]
    exact up2_at
  · have e1 : zR (adS (grS (mcS T b) b (tc 100) 0 r) b r a 0) r = va_up (zR (grS (mcS T b) b (tc 100) 0 r) r) 0 (some a) := va_up_self _ _ _
    rw [e1, show j = 0 by omega]
    exact va_up_self _ _ _
theorem LX_0 {b : Nat} (hb : ob T b 0 [(2, nI 0)] [(1, some (tc 100))]) : LX tc T b (tc 100) 0 0 := ⟨hb.1, hb.2.1, hb.2.2.2 _ (List.mem_singleton.mpr rfl), hb.2.2.1 _ (List.mem_singleton.mpr rfl), Nat.le_refl _, by decide, Or.inl ⟨rfl, rfl⟩⟩
/-- what the constructor of Master leaves -/
theorem MT.obs {e b r b1 b2 v1 v2 f : Nat} (h : MT tc S0 T q e b r b1 b2 v1 v2 f) : rl S0 T 0 0 none ∧ ob T q 5 [(320, nI e), (321, nI b), (327, bI true), (328, 0), (329, 0), (330, 0), (331, 0)] [(322, some r), (323, some b1), (324, some b2), (325, some v1), (326, some v2)] ∧ ob T b1 0 [(2, nI 0)] [(1, some (tc 100))] ∧ ob T b2 0 [(2, nI 0)] [(1, some (tc 100))] ∧ ia T v1 16 0 ∧ ia T v2 f (oI 0) ∧ q ∉ zL S0 ∧ b1 ∉ zL S0 ∧ b2 ∉ zL S0 ∧ v1 ∉ zL S0 ∧ v2 ∉ zL S0 ∧ b1 ≠ b2 ∧ v1 ≠ v2 := by
  obtain ⟨⟨m1, m2, m3, m4, m5, m6, m7, m8, m9, m10, m11⟩, ⟨a1, a2, a3, a4, a5, a6, a7⟩, ⟨c1, c2, c3, c4, c5, c6, c7⟩, ⟨d1, d2, d3, d4, d5, d6, d7⟩, ⟨e1, e2, e3, e4, e5, e6, e7⟩, m12, n1, n2⟩ := h
  refine ⟨m1.rl, ⟨m2, m3, fun p hp => ?_, fun p hp => ?_⟩, ⟨a1, a4, fun p hp => ?_, fun p hp => ?_⟩, ⟨c1, c4, fun p hp => ?_, fun p hp => ?_⟩, ⟨d1, d4, d5, d6⟩, ⟨e1, e4, e5, e6⟩, m4, a2, c2, d2, e2, n1, n2⟩
  · simp only [List.mem_cons, List.not_mem_nil, or_false] at hp
    rcases hp with rfl | rfl | rfl | rfl | rfl | rfl | rfl <;> assumption
  · simp only [List.mem_cons, List.not_mem_nil, or_false] at hp
    rcases hp with rfl | rfl | rfl | rfl | rfl <;> assumption
  · rw [List.mem_singleton.mp hp]; exact a6
  · rw [List.mem_singleton.mp hp]; exact a5
  · rw [List.mem_singleton.mp hp]; exact c6
  · rw [List.mem_singleton.mp hp]; exact c5
end
theorem near_is {x : Int32} {m : Nat} (h1 : 1 ≤ m) (hm : m < 2 ^ 31) : mxF (nI 1) (mnF (nI m) x) = nI (nrF x 1 m) := by
  have key : ∀ a b : Int32, a = b ↔ a.toInt = b.toInt := fun a b => (Int32.toInt_inj).symm
  by_cases c1 : x < nI 1
  · rw [nrF_1 c1]
    have c1' := c1
    rw [Int32.lt_iff_toInt_lt, nI_toInt (by decide)] at c1'
    unfold mnF
    by_cases c2 : x < nI m
    · rw [if_pos c2]
      unfold mxF
      rw [if_neg (fun z => by rw [Int32.lt_iff_toInt_lt, nI_toInt (by decide)] at z; omega)]
    · rw [Int32.lt_iff_toInt_lt, nI_toInt hm] at c2
      omega
  · by_cases c2 : nI m < x
    · rw [nrF_2 c1 c2]
      have c2' := c2
      rw [Int32.lt_iff_toInt_lt, nI_toInt hm] at c2'
      unfold mnF
      rw [if_neg (fun z => by rw [Int32.lt_iff_toInt_lt, nI_toInt hm] at z; omega)]
      unfold mxF
      by_cases c3 : nI 1 < nI m
      · rw [if_pos c3]
      · rw [if_neg c3]
        rw [Int32.lt_iff_toInt_lt, nI_toInt hm, nI_toInt (by decide)] at c3
        rw [show m = 1 by omega]
    · rw [nrF_3 (by decide) c1 c2]
      have e : mnF (nI m) x = x := by
        unfold mnF
        by_cases c3 : x < nI m
        · rw [if_pos c3]
        · rw [if_neg c3, key]
          rw [Int32.lt_iff_toInt_lt] at c2 c3
          omega
      rw [e]
      unfold mxF
      by_cases c3 : nI 1 < x
      · rw [if_pos c3]
      · rw [if_neg c3, key]
        rw [Int32.lt_iff_toInt_lt] at c1 c3
        omega
set_option maxRecDepth 100000 in
set_option maxHeartbeats 4000000 in
theorem c_nearest {l : Launch} {D : va_G} {tc : Nat → ClassId} (hls : l.stackTraces = false) {S : HS} {x : Int32} {m : Nat} (h1 : 1 ≤ m) (hm : m < 2 ^ 31) {post : Option Value → HS → Prop} (hp : post (some (.int (nI (nrF x 1 m)))) S) : CM l D tc yX10_nearest cX10_nearest 2 (some .int) 1 0 0 [.int x, .int (nI m)] S post := by
  refine CM.of hls (by decide +kernel) (by simp [Value.category]) (Nat.le_of_ble_eq_true rfl) (fun A0 p e9 s m0 args below meth c sz h hr hnm hA => ?_)
  refine V.eqL (ls' := [some (.int x), some (.int (nI m))]) rfl ?_
  refine V.blk h [(.iconst 1, 1), (.iload_n 1, 1), (.iload_n 0, 1)] (by decide +kernel) (pc' := 3) (ls' := [some (.int x), some (.int (nI m))]) (st' := [.int x, .int (nI m), .int (nI 1)]) rfl rfl (Nat.le_of_ble_eq_true rfl) ?_
  refine V.mmin h wm_RX10_253 (v := mnF (nI m) x) rfl (by decide +kernel) (Nat.le_of_ble_eq_true rfl) (Nat.le_of_ble_eq_true rfl) (Nat.zero_le _) (Nat.zero_le _) ?_
  refine V.mmax h wm_RX10_258 (v := nI (nrF x 1 m)) (near_is h1 hm) (by decide +kernel) (Nat.le_of_ble_eq_true rfl) (Nat.le_of_ble_eq_true rfl) (Nat.zero_le _) (Nat.zero_le _) ?_
  exact V.iret h hA hr rfl hp (by decide +kernel) (Nat.zero_le _) (Nat.zero_le _)
set_option maxRecDepth 100000 in
set_option maxHeartbeats 4000000 in
theorem c_init7 {l : Launch} {D : va_G} {tc : Nat → ClassId} (hls : l.stackTraces = false) {T : HS} {q : Nat} (hq0 : q ∉ zL T) {post : Option Value → HS → Prop} (hp : ∀ (S9 : HS) (b1 : Nat), hext T S9 → b1 ∉ zL T → b1 ≠ q → ob S9 q 7 [(449, 0)] [(448, some b1)] → ob S9 b1 0 [(2, nI 0)] [(1, some (tc 100))] → post none S9) : CM l D tc yX7_init cX7_init 1 none 4 1 3 [.ref q] (newO T q 7) post := by
  refine CM.of hls (by decide +kernel) (by simp [Value.category]) (Nat.le_of_ble_eq_true rfl) (fun A0 p e9 s m args below meth c sz h hr hnm hA => ?_)
  have hob : ob (newO T q 7) q 7 [(449, 0)] [] := ob_new (by simp) (by simp)
  refine V.eqL (ls' := [some (.ref q)]) rfl ?_
  refine V.blk h [(.aload_n 0, 1)] (by decide +kernel) (pc' := 1) (ls' := [some (.ref q)]) (st' := [.ref q]) rfl rfl (Nat.le_of_ble_eq_true rfl) ?_
  refine V.objInit h wm_RX7_3 wi_objectInit wc_objectInit (by decide +kernel) (Nat.le_of_ble_eq_true rfl) (Nat.le_of_ble_eq_true rfl) ?_
  refine V.blk h [(.aload_n 0, 1)] (by decide +kernel) (pc' := 5) (ls' := [some (.ref q)]) (st' := [.ref q]) rfl rfl (Nat.le_of_ble_eq_true rfl) ?_
  refine V.new h cls_0 wl_RX7_9 wz_RJx4a65c wn_RJx4a65c (Nat.le_of_ble_eq_true rfl) (Nat.le_of_ble_eq_true rfl) (by decide +kernel) (fun b1 hb1 => ?_)
  refine V.blk h [(.dup, 1)] (by decide +kernel) (pc' := 9) (ls' := [some (.ref q)]) (st' := [.ref b1, .ref b1, .ref q]) rfl rfl (Nat.le_of_ble_eq_true rfl) ?_
  refine V.callI h (np := 0) (st := [.ref b1, .ref q]) (m_newlist hls (b := b1) (S := newO (newO T q 7) b1 0) (List.mem_append_right _ (List.mem_singleton.mpr rfl)) (va_up_self _ _ _) (post := fun v S9 => v = none ∧ setP (setI (newO (newO T q 7) b1 0) 0 b1 (nI 0)) 1 b1 (some (tc 100)) = S9) ⟨rfl, rfl⟩) wc_Jx4a65c_init_da8c8 wn_RJx4a65c (Or.inl wm_RX7_11) wi_Jx4a65c_init_da8c8 rfl (by decide +kernel) rfl (Nat.le_of_ble_eq_true rfl) (Nat.le_of_ble_eq_true rfl) (Nat.le_of_ble_eq_true rfl) (Nat.le_of_ble_eq_true rfl) (by simp [Value.category]) (by decide +kernel) rfl (fun v S9 q9 => ?_)
  obtain ⟨rfl, hS9⟩ := q9
  subst hS9
  refine V.eq (S' := setP (setI (newO (newO T q 7) b1 0) 0 b1 (nI 0)) 1 b1 (some (tc 100))) (ls' := [some (.ref q)]) (st' := [.ref b1, .ref q]) rfl rfl rfl ?_
  have nq : q ≠ b1 := fun y => hb1 (y ▸ hob.1)
  refine V.putPF (v := some b1) (S := setP (setI (newO (newO T q 7) b1 0) 0 b1 (nI 0)) 1 b1 (some (tc 100))) h hnm cls_7 (j := 0) rfl (List.mem_append_left _ hob.1) ((va_up_ne _ _ nq).trans hob.2.1) wf_RX7_12 rfl rfl rfl rfl (by decide +kernel) ?_
  have hk := ol_rl (T := newO T q 7) (q := q) (c := 448) (z := some (tc 100)) hb1
  refine V.gen (P := fun S9 => hext T S9 ∧ ob S9 q 7 [(449, 0)] [(448, some b1)] ∧ ob S9 b1 0 [(2, nI 0)] [(1, some (tc 100))]) ⟨?_, ?_, ol_new hb1 hob.1⟩ (fun S9 p9 => ?_)
  · exact nl_hext hb1 hq0 (hext.rfl.newO hq0)
  · have := hk.ob hob (fun _ => ⟨by simp, by simp⟩)
    exact ⟨this.1, this.2.1, this.2.2.1, fun p hp => by rw [List.mem_singleton.mp hp]; exact up2_at⟩
  exact V.vret h hA hr (hp _ b1 p9.1 (fun z => hb1 (List.mem_append_left _ z)) (Ne.symm nq) p9.2.1 p9.2.2) (by decide +kernel) (Nat.le_of_ble_eq_true rfl) (Nat.le_of_ble_eq_true rfl)
set_option maxRecDepth 100000 in
set_option maxHeartbeats 4000000 in
theorem c_init9 {l : Launch} {D : va_G} {tc : Nat → ClassId} (hls : l.stackTraces = false) {T : HS} {q i x y : Nat} (hq0 : q ∉ zL T) (hx : x ≤ 4) (hy : y ≤ 4) {post : Option Value → HS → Prop} (hp : ∀ (S9 : HS) (b1 : Nat), hext T S9 → b1 ∉ zL T → ob S9 q 9 [(576, nI i), (577, nI x), (578, nI y), (580, 0), (581, 0)] [(579, some b1)] → ar S9 b1 27 (x * y) (x * y) (fun _ => none) → post none S9) : CM l D tc yX9_init cX9_init 4 none 1 1 16 [.ref q, .int (nI i), .int (nI x), .int (nI y)] (newO T q 9) post := by
  refine CM.of hls (by decide +kernel) (by simp [Value.category]) (Nat.le_of_ble_eq_true rfl) (fun A0 p e9 s m args below meth c sz h hr hnm hA => ?_)
  have hxy : x * y ≤ 4 * 4 := Nat.mul_le_mul hx hy
  have hob : ob (newO T q 9) q 9 [(580, 0), (581, 0)] [] := ob_new (by simp) (by simp)
  refine V.eqL (ls' := [some (.ref q), some (.int (nI i)), some (.int (nI x)), some (.int (nI y))]) rfl ?_
  refine V.blk h [(.aload_n 0, 1)] (by decide +kernel) (pc' := 1) (ls' := [some (.ref q), some (.int (nI i)), some (.int (nI x)), some (.int (nI y))]) (st' := [.ref q]) rfl rfl (Nat.le_of_ble_eq_true rfl) ?_
  refine V.objInit h wm_RX9_3 wi_objectInit wc_objectInit (by decide +kernel) (Nat.le_of_ble_eq_true rfl) (Nat.le_of_ble_eq_true rfl) ?_
  refine V.blk h [(.aload_n 0, 1), (.iload_n 1, 1)] (by decide +kernel) (pc' := 6) (ls' := [some (.ref q), some (.int (nI i)), some (.int (nI x)), some (.int (nI y))]) (st' := [.int (nI i), .ref q]) rfl rfl (Nat.le_of_ble_eq_true rfl) ?_
  refine V.putIF (S := newO T q 9) h hnm cls_9 (j := 0) rfl hob.1 hob.2.1 wf_RX9_9 rfl rfl rfl rfl (by decide +kernel) ?_
  refine V.gen (P := fun S9 => hext T S9 ∧ ob S9 q 9 [(576, nI i), (580, 0), (581, 0)] []) ⟨(hext.rfl.newO hq0).setI hq0, ob_setI hob ⟨by simp, by simp⟩⟩ (fun T1 p1 => ?_)
  obtain ⟨hx1, ho1⟩ := p1
  refine V.blk h [(.aload_n 0, 1), (.iload_n 2, 1)] (by decide +kernel) (pc' := 11) (ls' := [some (.ref q), some (.int (nI i)), some (.int (nI x)), some (.int (nI y))]) (st' := [.int (nI x), .ref q]) rfl rfl (Nat.le_of_ble_eq_true rfl) ?_
  refine V.putIF (S := T1) h hnm cls_9 (j := 1) rfl ho1.1 ho1.2.1 wf_RX9_15 rfl rfl rfl rfl (by decide +kernel) ?_
  refine V.gen (P := fun S9 => hext T S9 ∧ ob S9 q 9 [(577, nI x), (576, nI i), (580, 0), (581, 0)] []) ⟨hx1.setI hq0, ob_setI ho1 ⟨by simp, by simp⟩⟩ (fun T2 p2 => ?_)
  obtain ⟨hx2, ho2⟩ := p2
  refine V.blk h [(.aload_n 0, 1), (.iload_n 3, 1)] (by decide +kernel) (pc' := 16) (ls' := [some (.ref q), some (.int (nI i)), some (.int (nI x)), some (.int (nI y))]) (st' := [.int (nI y), .ref q]) rfl rfl (Nat.le_of_ble_eq_true rfl) ?_
  refine V.putIF (S := T2) h hnm cls_9 (j := 2) rfl ho2.1 ho2.2.1 wf_RX9_18 rfl rfl rfl rfl (by decide +kernel) ?_
  refine V.gen (P := fun S9 => hext T S9 ∧ ob S9 q 9 [(578, nI y), (577, nI x), (576, nI i), (580, 0), (581, 0)] []) ⟨hx2.setI hq0, ob_setI ho2 ⟨by simp, by simp⟩⟩ (fun T3 p3 => ?_)
  obtain ⟨hx3, ho3⟩ := p3
  refine V.blk h [(.aload_n 0, 1), (.iconst 0, 1), (.iload_n 2, 1), (.iload_n 3, 1)] (by decide +kernel) (pc' := 23) (ls' := [some (.ref q), some (.int (nI i)), some (.int (nI x)), some (.int (nI y))]) (st' := [.int (nI y), .int (nI x), .int (nI 0), .ref q]) rfl rfl (Nat.le_of_ble_eq_true rfl) ?_
  refine V.mulN h (by decide +kernel) (Nat.le_of_ble_eq_true rfl) ?_
  refine V.mmax h wm_RX9_21 (v := nI (x * y)) (mx_0n (by omega)) (by decide +kernel) (Nat.le_of_ble_eq_true rfl) (Nat.le_of_ble_eq_true rfl) (Nat.le_of_ble_eq_true rfl) (Nat.le_of_ble_eq_true rfl) ?_
  refine V.anewarr h 27 (by decide) (E := "OneTrip$Operation") rfl h.2.2.2.2.2.1.2.2.2.1.2.2.2.1 wl_RX9_27 (M := x * y) (by omega) (Nat.le_of_ble_eq_true rfl) (by show 0 + x * y ≤ 16; omega) (by decide +kernel) (fun b1 hb1 => ?_)
  have nq : q ≠ b1 := fun z => hb1 (z ▸ ho3.1)
  refine V.putPF (v := some b1) (S := newA T3 b1 27 (x * y)) h hnm cls_9 (j := 3) rfl (List.mem_append_left _ ho3.1) ((va_up_ne _ _ nq).trans ho3.2.1) wf_RX9_29 rfl rfl rfl rfl (by decide +kernel) ?_
  have hk := oa_rl (T := T3) (q := q) (c := 579) (ka := 27) (n := x * y) hb1
  refine V.gen (P := fun S9 => hext T S9 ∧ ob S9 q 9 [(576, nI i), (577, nI x), (578, nI y), (580, 0), (581, 0)] [(579, some b1)] ∧ ar S9 b1 27 (x * y) (x * y) (fun _ => none)) ⟨(hx3.newA (fun z => hb1 (hx3 b1 z).1)).setP hq0, ?_, oa_new⟩ (fun S9 p9 => ?_)
  · have := hk.ob ho3 (fun _ => ⟨by simp, by simp⟩)
    refine ⟨this.1, this.2.1, fun p hp => this.2.2.1 p ?_, fun p hp => by rw [List.mem_singleton.mp hp]; exact up2_at⟩
    simp only [List.mem_cons, List.not_mem_nil, or_false] at hp ⊢
    rcases hp with rfl | rfl | rfl | rfl | rfl <;> simp
  exact V.vret h hA hr (hp _ b1 p9.1 (fun z => hb1 (hx3 b1 z).1) p9.2.1 p9.2.2) (by decide +kernel) (Nat.le_of_ble_eq_true rfl) (by show 0 + x * y ≤ 16; omega)
