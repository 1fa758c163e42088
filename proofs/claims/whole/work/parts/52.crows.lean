/-! ===== rows for numbers, over any heap ===== -/
section
variable {l : Launch} {D : va_G} {tc : Nat → ClassId} {A : Nat → Prop} {p : Program} {e : Env} {R : Room} {s : State} {m : MethodId} {args : Array Value} {below : List Frame} {meth : Method} {c : Code} {nL : Nat} {Q : State → Prop} {S : HS} {k n : Nat} {pc : Nat} {ls : List (Option Value)} {st : List Value} {cc : ByteArray} {own : String} {Ts : List Cond}
theorem V.st2 {u v v' : Value} (h : v' = v) (kk : V l D tc A p e R s m args below meth c nL Q S k n pc ls (u :: v' :: st)) : V l D tc A p e R s m args below meth c nL Q S k n pc ls (u :: v :: st) := h ▸ kk
theorem V.eqL {ls' : List (Option Value)} (h : ls' = ls) (kk : V l D tc A p e R s m args below meth c nL Q S k n pc ls' st) : V l D tc A p e R s m args below meth c nL Q S k n pc ls st := h ▸ kk
theorem V.drop (i : Nat) {ls' : List (Option Value)} (h : ls.set i none = ls') (kk : V l D tc A p e R s m args below meth c nL Q S k n pc ls' st) : V l D tc A p e R s m args below meth c nL Q S k n pc ls st := by
  subst h
  refine V.sub (fun j v hj => ?_) kk
  by_cases e : j = i
  · subst e
    rcases Nat.lt_or_ge j ls.length with q | q
    · rw [List.getElem?_set_self q] at hj; cases hj
    · rw [List.getElem?_eq_none (by rw [List.length_set]; exact q)] at hj; cases hj
  · rwa [List.getElem?_set_ne (Ne.symm e)] at hj
theorem V.m1 (h : CX l D tc A p s m args meth c cc nL own Ts) (d : decode cc pc = .ok (.iconst (-1), 1)) (hn : ls.length ≤ nL) (kk : V l D tc A p e R s m args below meth c nL Q S k n (pc + 1) ls (.int (oI 0) :: st)) : V l D tc A p e R s m args below meth c nL Q S k n pc ls st := V.one h d rfl rfl hn (V.top (by rw [oI_0]; rfl) kk)
theorem V.addN (h : CX l D tc A p s m args meth c cc nL own Ts) {x y : Nat} (d : decode cc pc = .ok (.iadd, 1)) (hn : ls.length ≤ nL) (kk : V l D tc A p e R s m args below meth c nL Q S k n (pc + 1) ls (.int (nI (x + y)) :: st)) : V l D tc A p e R s m args below meth c nL Q S k n pc ls (.int (nI y) :: .int (nI x) :: st) := V.one h d rfl rfl hn (V.top (by rw [nI_add]) kk)
theorem V.subN (h : CX l D tc A p s m args meth c cc nL own Ts) {x y : Nat} (d : decode cc pc = .ok (.isub, 1)) (hn : ls.length ≤ nL) (hle : y ≤ x) (kk : V l D tc A p e R s m args below meth c nL Q S k n (pc + 1) ls (.int (nI (x - y)) :: st)) : V l D tc A p e R s m args below meth c nL Q S k n pc ls (.int (nI y) :: .int (nI x) :: st) := V.one h d rfl rfl hn (V.top (by rw [pk_sub hle]) kk)
theorem V.mulN (h : CX l D tc A p s m args meth c cc nL own Ts) {x y : Nat} (d : decode cc pc = .ok (.imul, 1)) (hn : ls.length ≤ nL) (kk : V l D tc A p e R s m args below meth c nL Q S k n (pc + 1) ls (.int (nI (x * y)) :: st)) : V l D tc A p e R s m args below meth c nL Q S k n pc ls (.int (nI y) :: .int (nI x) :: st) := V.one h d rfl rfl hn (V.top (by rw [pk_mul]) kk)
theorem V.shl1 (h : CX l D tc A p s m args meth c cc nL own Ts) {x y v : Int32} (hv : x <<< (y &&& 31) = v) (d : decode cc pc = .ok (.ishl, 1)) (kk : V l D tc A p e R s m args below meth c nL Q S k n (pc + 1) ls (.int v :: st)) : V l D tc A p e R s m args below meth c nL Q S k n pc ls (.int y :: .int x :: st) := V.ishl h hv d kk
theorem V.orN (h : CX l D tc A p s m args meth c cc nL own Ts) {x y : Int32} {v : Int32} (hv : x ||| y = v) (d : decode cc pc = .ok (.ior, 1)) (hn : ls.length ≤ nL) (kk : V l D tc A p e R s m args below meth c nL Q S k n (pc + 1) ls (.int v :: st)) : V l D tc A p e R s m args below meth c nL Q S k n pc ls (.int y :: .int x :: st) := V.one h d rfl rfl hn (V.top (by rw [hv]) kk)
theorem V.remN (h : CX l D tc A p s m args meth c cc nL own Ts) {x y : Nat} (d : decode cc pc = .ok (.irem, 1)) (hx : x < 2 ^ 31) (hy0 : 0 < y) (hy : y < 2 ^ 31) (kk : V l D tc A p e R s m args below meth c nL Q S k n (pc + 1) ls (.int (nI (x % y)) :: st)) : V l D tc A p e R s m args below meth c nL Q S k n pc ls (.int (nI y) :: .int (nI x) :: st) := V.irem h (nI_ne0 hy0 hy) (pk_rem hx hy0 hy) d kk
theorem V.incN (h : CX l D tc A p s m args meth c cc nL own Ts) {x i : Nat} (d : decode cc pc = .ok (.iinc i 1, 3)) (hl : ls[i]? = some (some (.int (nI x)))) (hn : ls.length ≤ nL) (kk : V l D tc A p e R s m args below meth c nL Q S k n (pc + 3) (ls.set i (some (.int (nI (x + 1))))) st) : V l D tc A p e R s m args below meth c nL Q S k n pc ls st := V.one (ls' := ls.set i (some (.int (nI x + kI 1)))) (st' := st) h d rfl (by simp only [ex1, hl]) hn (V.eq rfl (by rw [show kI 1 = nI 1 by decide, nI_add]) rfl kk)
/-- behind a write the heap gets a name -/
theorem V.gen {P : HS → Prop} (h : P S) (kk : ∀ S1, P S1 → V l D tc A p e R s m args below meth c nL Q S1 k n pc ls st) : V l D tc A p e R s m args below meth c nL Q S k n pc ls st := kk S h
theorem V.used {k' n' : Nat} (h1 : k = k') (h2 : n = n') (kk : V l D tc A p e R s m args below meth c nL Q S k' n' pc ls st) : V l D tc A p e R s m args below meth c nL Q S k n pc ls st := by subst h1; subst h2; exact kk
end
/-! ===== the class's heap by its lasting addresses ax and the others ay ===== -/
def SL (a a' : Nat → Nat → Nat) : Prop := ∀ g i, g ≠ 4 → g ≠ 8 → g ≠ 23 → g ≠ 50 → a' g i = a g i
theorem SL.is {ax ay a' : Nat → Nat → Nat} (h : SL (mx ax ay) a') : a' = mx ax a' := by
  funext g i
  unfold mx
  split <;> try rfl
  next h4 h8 h23 h50 =>
    rw [h g i (fun z => h4 z) (fun z => h8 z) (fun z => h23 z) (fun z => h50 z)]
    unfold mx
    split <;> first | rfl | (exfalso; omega) | (exfalso; simp_all; done)
theorem aS_SL {a : Nat → Nat → Nat} {f n i0 q t M : Nat} (hf : f = 4 ∨ f = 8) : SL a (aS a f n i0 q t M) := by
  intro g i h4 h8 h23 h50
  unfold aS
  rw [if_neg (by omega), if_neg (by omega), if_neg (by omega)]
theorem aT_SL {a : Nat → Nat → Nat} {f : Nat} {sh : Nat → Nat} (hf : f = 4 ∨ f = 8) : SL a (aT a f sh) := by
  intro g i h4 h8 h23 h50
  unfold aT
  rw [if_neg (by omega)]

section
variable {l : Launch} {D : va_G} {tc : Nat → ClassId} {ax ay : Nat → Nat → Nat} {A : TS} {S : HS} {post : Option Value → HS → Prop}
theorem s_let (hls : l.stackTraces = false) (h : RA tc (mx ax ay) A S) (hp : post (some (.int (nI (tf A 53)))) S) : CM l D tc yJx4a65c_size_8abf5 cJx4a65c_size_8abf5 1 (some .int) 0 0 0 [.ref (ax 0 0)] S post := l_size hls h (i := 0) (Or.inl (by decide)) hp
theorem s_mas (hls : l.stackTraces = false) (h : RA tc (mx ax ay) A S) (hp : post (some (.int (nI (tf A 5)))) S) : CM l D tc yJx4a65c_size_8abf5 cJx4a65c_size_8abf5 1 (some .int) 0 0 0 [.ref (ax 0 1)] S post := l_size hls h (i := 1) (Or.inl (by decide)) hp
theorem s_ops (hls : l.stackTraces = false) (h : RA tc (mx ax ay) A S) (hp : post (some (.int (nI (tf A 6)))) S) : CM l D tc yJx4a65c_size_8abf5 cJx4a65c_size_8abf5 1 (some .int) 0 0 0 [.ref (ax 0 2)] S post := l_size hls h (i := 2) (Or.inl (by decide)) hp
theorem lv_log {e : Nat} (he : e < tf A 38) (h12 : tf A 38 ≤ 12) : lv A 0 (3 + e) := Or.inr (Or.inl ⟨by omega, by omega, by omega⟩)
theorem lv_gts {e : Nat} (he : e < tf A 38) : lv A 0 (15 + e) := Or.inr (Or.inr ⟨by omega, by omega⟩)
theorem s_log (hls : l.stackTraces = false) (h : RA tc (mx ax ay) A S) {e : Nat} (he : e < tf A 38) (hp : post (some (.int (nI (tn A 26 e)))) S) : CM l D tc yJx4a65c_size_8abf5 cJx4a65c_size_8abf5 1 (some .int) 0 0 0 [.ref (ax 0 (3 + e))] S post := by
  have h12 := h.2.2.2.1.2.1
  exact l_size hls h (i := 3 + e) (lv_log he h12) (by rw [lsz_l (by omega)]; exact hp)
theorem s_gts (hls : l.stackTraces = false) (h : RA tc (mx ax ay) A S) {e : Nat} (he : e < tf A 38) (hp : post (some (.int (nI (tn A 37 e)))) S) : CM l D tc yJx4a65c_size_8abf5 cJx4a65c_size_8abf5 1 (some .int) 0 0 0 [.ref (ax 0 (15 + e))] S post := by
  have h12 := h.2.2.2.1.2.1
  exact l_size hls h (i := 15 + e) (lv_gts he) (by rw [lsz_g (by omega)]; exact hp)
theorem g_let (hls : l.stackTraces = false) (h : RA tc (mx ax ay) A S) {k : Nat} (hk : k < tf A 53) (hp : post (some (.ref (ay 4 k))) S) : CM l D tc yJx4a65c_get_915e3 cJx4a65c_get_915e3 2 (some (.object "java/lang/Object")) 2 0 0 [.ref (ax 0 0), .int (nI k)] S post := l_get hls h (i := 0) (Or.inl (by decide)) hk hp
theorem g_mas (hls : l.stackTraces = false) (h : RA tc (mx ax ay) A S) {k : Nat} (hk : k < tf A 5) (hp : post (some (.ref (ax 5 k))) S) : CM l D tc yJx4a65c_get_915e3 cJx4a65c_get_915e3 2 (some (.object "java/lang/Object")) 2 0 0 [.ref (ax 0 1), .int (nI k)] S post := l_get hls h (i := 1) (Or.inl (by decide)) hk hp
theorem g_ops (hls : l.stackTraces = false) (h : RA tc (mx ax ay) A S) {k : Nat} (hk : k < tf A 6) (hp : post (some (.ref (ax 6 k))) S) : CM l D tc yJx4a65c_get_915e3 cJx4a65c_get_915e3 2 (some (.object "java/lang/Object")) 2 0 0 [.ref (ax 0 2), .int (nI k)] S post := l_get hls h (i := 2) (Or.inl (by decide)) hk hp
theorem g_log (hls : l.stackTraces = false) (h : RA tc (mx ax ay) A S) {e k : Nat} (he : e < tf A 38) (hk : k < tn A 26 e) (hp : post (some (.ref (ax 3 (600 * e + k)))) S) : CM l D tc yJx4a65c_get_915e3 cJx4a65c_get_915e3 2 (some (.object "java/lang/Object")) 2 0 0 [.ref (ax 0 (3 + e)), .int (nI k)] S post := by
  have h12 := h.2.2.2.1.2.1
  exact l_get hls h (i := 3 + e) (lv_log he h12) (by rw [lsz_l (by omega)]; exact hk) (by rw [lfam_l (by omega), lix_l (by omega)]; exact hp)
theorem g_gts (hls : l.stackTraces = false) (h : RA tc (mx ax ay) A S) {e k : Nat} (he : e < tf A 38) (hk : k < tn A 37 e) (hp : post (some (.ref (ay 8 (600 * e + k)))) S) : CM l D tc yJx4a65c_get_915e3 cJx4a65c_get_915e3 2 (some (.object "java/lang/Object")) 2 0 0 [.ref (ax 0 (15 + e)), .int (nI k)] S post := by
  have h12 := h.2.2.2.1.2.1
  exact l_get hls h (i := 15 + e) (lv_gts he) (by rw [lsz_g (by omega)]; exact hk) (by rw [lfam_g (by omega), lix_g (by omega)]; exact hp)
theorem lv_ent {e k : Nat} (h : RA tc (mx ax ay) A S) (he : e < tf A 38) (hk : k < tn A 26 e) : lv A 3 (600 * e + k) := by
  have h6 := (h.2.2.2.2.1 e he).1
  have e1 : (600 * e + k) / 600 = e := by omega
  have e2 : (600 * e + k) % 600 = k := by omega
  show (600 * e + k) / 600 < tf A 38 ∧ (600 * e + k) % 600 < tn A 26 ((600 * e + k) / 600)
  rw [e1, e2]
  exact ⟨he, hk⟩
theorem lv_get {e k : Nat} (h : RA tc (mx ax ay) A S) (he : e < tf A 38) (hk : k < tn A 37 e) : lv A 8 (600 * e + k) := by
  have h6 := (h.2.2.2.2.1 e he).2
  have e1 : (600 * e + k) / 600 = e := by omega
  have e2 : (600 * e + k) % 600 = k := by omega
  show (600 * e + k) / 600 < tf A 38 ∧ (600 * e + k) % 600 < tn A 37 ((600 * e + k) / 600)
  rw [e1, e2]
  exact ⟨he, hk⟩
end
