/-! ===== the judgement V: the machine at a place of a method, over a typed heap ===== -/
def ztys (tc : Nat → ClassId) : List (ClassId × FieldType) := [(tc 0, .int), (tc 1, .boolean), (tc 2, .long), (tc 3, .object "java/lang/Object"), (tc 4, .object "OneTrip$Client"), (tc 5, .object "OneTrip$Backup"), (tc 6, .object "OneTrip$Witness"), (tc 7, .object "OneTrip$Operation")]
/-- statics that nobody writes: what 'throw' and the empty list need of them -/
def zST (A : Nat → Prop) (U : State) (H : Heap) : Prop :=
  vx_Zq Bundle.tN "UNASSIGNED_STACK" Bundle.steD A U H ∧ vx_Zq Bundle.tN "SUPPRESSED_SENTINEL" Bundle.listD A U H
def zAO (U : State) : Prop := va_AO "OneTrip$Client" U ∧ va_AO "OneTrip$Backup" U ∧ va_AO "OneTrip$Witness" U ∧ va_AO "OneTrip$Operation" U ∧ va_AO "java/lang/Object" U
/-- the empty list's own array (its address: tc 100) and the Class of Object[] (tc 101) -/
def zEA (tc : Nat → ClassId) (A : Nat → Prop) (U : State) (H : Heap) : Prop := va_Z "java/util/ArrayList" "DEFAULTCAPACITY_EMPTY_ELEMENTDATA" "[Ljava/lang/Object;" (.ref (tc 100)) A U H ∧ va_T (.object "java/lang/Object") (tc 100) 0 (fun _ => .null) A U H ∧ va_Mi "[Ljava/lang/Object;" (tc 101) U
def zNC (U : State) : Prop := va_Nc "java/lang/IllegalArgumentException" "java/lang/IndexOutOfBoundsException" U ∧ va_Nc "java/lang/UnsupportedOperationException" "java/lang/IndexOutOfBoundsException" U
def WK : List Cond := [.castable "OneTrip$Master" "java/lang/Object", .castable "OneTrip$Operation" "java/lang/Object", .castable "OneTrip$Letter" "java/lang/Object", .castable "OneTrip$Entry" "java/lang/Object", .castable "OneTrip$WaitingGet" "java/lang/Object", .castable "java/lang/IndexOutOfBoundsException" "java/lang/IndexOutOfBoundsException", .castable "java/lang/IllegalArgumentException" "java/lang/IllegalArgumentException", .castable "java/lang/UnsupportedOperationException" "java/lang/UnsupportedOperationException", .declares ⟨"java/lang/Object", "getClass", "()Ljava/lang/Class;"⟩, .declares ⟨"java/lang/RuntimeException", "<init>", "()V"⟩, .declares ⟨"java/lang/Exception", "<init>", "()V"⟩, .declares ⟨"java/lang/Throwable", "<init>", "()V"⟩]
def GC (D : va_G) (tc : Nat → ClassId) (A : Nat → Prop) (U : State) (H : Heap) : Prop :=
  va_K D vwCl (ztys tc) U ∧ (∀ w ∈ WN, va_Nw w U) ∧ zST A U H ∧ zAO U ∧ (∀ w ∈ WK, va_Nw w U) ∧ zEA tc A U H ∧ zNC U
theorem zAO.moved {u U : State} (hv : u.vm.Alike U.vm) (h : zAO u) : zAO U := ⟨va_AO.moved hv h.1, va_AO.moved hv h.2.1, va_AO.moved hv h.2.2.1, va_AO.moved hv h.2.2.2.1, va_AO.moved hv h.2.2.2.2⟩
theorem zEA.moved {tc : Nat → ClassId} {A : Nat → Prop} {u U : State} {H : Heap} (hv : u.vm.Alike U.vm) (h : zEA tc A u H) : zEA tc A U H := ⟨va_Z.moved hv h.1, va_T.moved hv h.2.1, va_Mi.moved hv h.2.2⟩
theorem zEA.kept {tc : Nat → ClassId} {A : Nat → Prop} {U : State} {H H1 : Heap} (hq : ∀ a : Nat, a < H.size → ¬ A a → H1[a]? = H[a]?) (h : zEA tc A U H) : zEA tc A U H1 := ⟨va_Z.kept h.1 hq, va_T.kept h.2.1 hq, h.2.2⟩
theorem zEA.narrow {tc : Nat → ClassId} {A B : Nat → Prop} {U : State} {H : Heap} (hq : ∀ a : Nat, B a → A a) (h : zEA tc A U H) : zEA tc B U H := ⟨va_Z.narrow h.1 hq, va_T.narrow h.2.1 hq, h.2.2⟩
theorem zNC.moved {u U : State} (hv : u.vm.Alike U.vm) (h : zNC u) : zNC U := ⟨va_Nc.moved hv h.1, va_Nc.moved hv h.2⟩
def isNest : Cond → Bool
  | .fieldLinkNest .. => true
  | .methodLinkNest .. => true
  | _ => false
theorem WN_nest : WN.all isNest = true := by decide +kernel
theorem WN_warm {s U : State} (hW : s.WarmedH U.vm) (h : ∀ w ∈ WN, va_Nw w s) : ∀ w ∈ WN, va_Nw w U := by
  intro w hw
  have hn : isNest w = true := List.all_eq_true.mp WN_nest w hw
  have h1 := h w hw
  cases w <;> first | exact va_Nw.warmF hW h1 | exact va_Nw.warmM hW h1 | cases hn
theorem Nw_warmD {y : MethodName} {s U : State} (hW : s.WarmedH U.vm) (hZ : va_Nw (.declares y) s) : va_Nw (.declares y) U := va_tabs rfl (rfl : (s.setVm U.vm).vm = U.vm) (by rw [Cond.declares_setVm hW.alike]; exact hZ)
theorem WK_warm {s U : State} (hW : s.WarmedH U.vm) (h : ∀ w ∈ WK, va_Nw w s) : ∀ w ∈ WK, va_Nw w U := by
  intro w hw
  have h1 := h w hw
  simp only [WK, List.mem_cons, List.not_mem_nil, or_false] at hw
  rcases hw with rfl | rfl | rfl | rfl | rfl | rfl | rfl | rfl | rfl | rfl | rfl | rfl <;> first | exact va_Nw.warmC hW h1 | exact Nw_warmD hW h1
theorem GC.warm {D : va_G} {tc : Nat → ClassId} {A : Nat → Prop} {s U : State} {H : Heap} (hW : s.WarmedH U.vm) (h : GC D tc A s H) : GC D tc A U H :=
  ⟨va_K.moved hW.alike h.1, WN_warm hW h.2.1, ⟨vx_Zq.moved hW.alike h.2.2.1.1, vx_Zq.moved hW.alike h.2.2.1.2⟩, h.2.2.2.1.moved hW.alike, WK_warm hW h.2.2.2.2.1, h.2.2.2.2.2.1.moved hW.alike, h.2.2.2.2.2.2.moved hW.alike⟩
theorem GC.kept {D : va_G} {tc : Nat → ClassId} {A : Nat → Prop} {s : State} {H H1 : Heap} (hq : ∀ a : Nat, a < H.size → ¬ A a → H1[a]? = H[a]?) (h : GC D tc A s H) : GC D tc A s H1 :=
  ⟨h.1, h.2.1, ⟨vx_Zq.kept h.2.2.1.1 hq, vx_Zq.kept h.2.2.1.2 hq⟩, h.2.2.2.1, h.2.2.2.2.1, h.2.2.2.2.2.1.kept hq, h.2.2.2.2.2.2⟩
theorem GC.narrow {D : va_G} {tc : Nat → ClassId} {A B : Nat → Prop} {s : State} {H : Heap} (hq : ∀ a : Nat, B a → A a) (h : GC D tc A s H) : GC D tc B s H :=
  ⟨h.1, h.2.1, ⟨vx_Zq.narrow h.2.2.1.1 hq, vx_Zq.narrow h.2.2.1.2 hq⟩, h.2.2.2.1, h.2.2.2.2.1, h.2.2.2.2.2.1.narrow hq, h.2.2.2.2.2.2⟩
theorem GC.same {D : va_G} {tc : Nat → ClassId} {A : Nat → Prop} {u U : State} {H : Heap} (hv : u.vm = U.vm) (h : GC D tc A u H) : GC D tc A U H :=
  GC.warm (s := u) (U := U) (by rw [← hv]; exact State.WarmedH.refl u) h
/-- the locals by their places; 'none': nothing is known of it -/
def zH (lsa : Array Slot) (nL : Nat) (ls : List (Option Value)) : Prop := lsa.size = nL ∧ lv_wf lsa ∧ ∀ (i : Nat) (v : Value), ls[i]? = some (some v) → lsa[i]? = some (.val v) ∧ v.category = 1
theorem zH.get {lsa : Array Slot} {nL : Nat} {ls : List (Option Value)} (h : zH lsa nL ls) {i : Nat} {v : Value} (hl : ls[i]? = some (some v)) : lsa[i]? = some (.val v) := (h.2.2 i v hl).1
def zpairs : Nat → List (Option Value) → List (Nat × Value)
  | _, [] => []
  | i, none :: r => zpairs (i + 1) r
  | i, some v :: r => (i, v) :: zpairs (i + 1) r
theorem zpairs_mem : ∀ (ls : List (Option Value)) (i : Nat) (q : Nat × Value), q ∈ zpairs i ls → ∃ j, q.1 = i + j ∧ ls[j]? = some (some q.2)
  | [], i, q, h => by cases h
  | none :: r, i, q, h => by
    obtain ⟨j, h1, h2⟩ := zpairs_mem r (i + 1) q h
    exact ⟨j + 1, by omega, by simpa using h2⟩
  | some v :: r, i, q, h => by
    rcases List.mem_cons.mp h with rfl | h
    · exact ⟨0, rfl, rfl⟩
    · obtain ⟨j, h1, h2⟩ := zpairs_mem r (i + 1) q h
      exact ⟨j + 1, by omega, by simpa using h2⟩
theorem zpairs_in : ∀ (ls : List (Option Value)) (i j : Nat) (v : Value), ls[j]? = some (some v) → (i + j, v) ∈ zpairs i ls
  | [], i, j, v, h => by simp at h
  | none :: r, i, 0, v, h => by simp at h
  | none :: r, i, j + 1, v, h => by
    have := zpairs_in r (i + 1) j v (by simpa using h)
    rw [show i + 1 + j = i + (j + 1) by omega] at this
    exact this
  | some w :: r, i, 0, v, h => by
    have e : w = v := by simpa using h
    subst e
    exact List.mem_cons_self
  | some w :: r, i, j + 1, v, h => by
    have := zpairs_in r (i + 1) j v (by simpa using h)
    rw [show i + 1 + j = i + (j + 1) by omega] at this
    exact List.mem_cons_of_mem _ this
theorem zH.lv {lsa : Array Slot} {nL : Nat} {ls : List (Option Value)} (h : zH lsa nL ls) : lv_has lsa nL (zpairs 0 ls) := by
  refine ⟨h.1, h.2.1, fun q hq => ?_⟩
  obtain ⟨j, h1, h2⟩ := zpairs_mem ls 0 q hq
  rw [h1, Nat.zero_add]
  exact (h.2.2 j q.2 h2).1
/-- a store of a value of one slot -/
theorem zH.put {lsa lsb : Array Slot} {nL : Nat} {ls : List (Option Value)} (h : zH lsa nL ls) {i : Nat} {v : Value} (hv : v.category = 1) (hb : lv_has lsb nL ((i, v) :: (zpairs 0 ls).filter (fun q => !(q.1 == i) && !(q.1 + 1 == i && q.2.category == 2)))) : zH lsb nL (ls.set i (some v)) := by
  refine ⟨hb.1, hb.2.1, fun j w hj => ?_⟩
  by_cases e : j = i
  · subst e
    have hlt := (List.getElem?_eq_some_iff.mp hj).1
    rw [List.length_set] at hlt
    rw [List.getElem?_set_self hlt] at hj
    cases hj
    exact ⟨hb.2.2 (j, v) List.mem_cons_self, hv⟩
  · rw [List.getElem?_set_ne (Ne.symm e)] at hj
    have hc := (h.2.2 j w hj).2
    refine ⟨hb.2.2 (j, w) (List.mem_cons_of_mem _ (List.mem_filter.mpr ⟨?_, ?_⟩)), hc⟩
    · have := zpairs_in ls 0 j w hj
      rwa [Nat.zero_add] at this
    · simp [e, hc]
theorem zH.of {lsa : Array Slot} {nL : Nat} {l : List (Nat × Value)} {ls : List (Option Value)} (h : lv_has lsa nL l) (hl : ∀ (i : Nat) (v : Value), ls[i]? = some (some v) → (i, v) ∈ l ∧ v.category = 1) : zH lsa nL ls := ⟨h.1, h.2.1, fun i v hi => ⟨h.2.2 (i, v) (hl i v hi).1, (hl i v hi).2⟩⟩
/-- what stays through a method's body -/
def CX (l : Launch) (D : va_G) (tc : Nat → ClassId) (A : Nat → Prop) (p : Program) (s : State) (m : MethodId) (args : Array Value) (meth : Method) (c : Code) (cc : ByteArray) (nL : Nat) (own : String) (Ts : List Cond) : Prop :=
  p.tables.exec = Jvm.exec ∧ c.code = cc ∧ c.maxLocals = nL ∧ (∀ w ∈ Ts, w.before args s = true) ∧ s.vm.findClass own = some m.cls ∧ GC D tc A s s.heap ∧ (∀ q, s.heap.size ≤ q → A q) ∧ (∀ w ∈ WG, w ∈ Ts) ∧ meth.locks = false ∧ l.stackTraces = false
def V (l : Launch) (D : va_G) (tc : Nat → ClassId) (A : Nat → Prop) (p : Program) (e : Env) (R : Room) (s : State) (m : MethodId) (args : Array Value) (below : List Frame) (meth : Method) (c : Code) (nL : Nat) (Q : State → Prop) (S : HS) (k n : Nat) (pc : Nat) (ls : List (Option Value)) (st : List Value) : Prop :=
  ∀ (H : Heap) (locs : List Loc) (lsa : Array Slot), zP1 D tc S H → zD1 tc A S → va_S A s.heap H locs → zH lsa nL ls → W p l e R s m args below meth c H locs k n Q (F0 m pc lsa st)
section VR
variable {l : Launch} {D : va_G} {tc : Nat → ClassId} {A : Nat → Prop} {p : Program} {e : Env} {R : Room} {s : State} {m : MethodId} {args : Array Value} {below : List Frame} {meth : Method} {c : Code} {nL : Nat} {Q : State → Prop} {S : HS} {k n : Nat} {pc : Nat} {ls : List (Option Value)} {st : List Value} {cc : ByteArray} {own : String} {Ts : List Cond}
theorem V.widen {k' n' : Nat} (h1 : k ≤ k') (h2 : n ≤ n') (kk : V l D tc A p e R s m args below meth c nL Q S k' n' pc ls st) : V l D tc A p e R s m args below meth c nL Q S k n pc ls st := fun H locs lsa hP hD hS hl => W.widen h1 h2 (kk H locs lsa hP hD hS hl)
/-- other words for the same place -/
theorem V.eq {S' : HS} {ls' : List (Option Value)} {st' : List Value} (h1 : S' = S) (h2 : ls' = ls) (h3 : st' = st) (kk : V l D tc A p e R s m args below meth c nL Q S' k n pc ls' st') : V l D tc A p e R s m args below meth c nL Q S k n pc ls st := by subst h1; subst h2; subst h3; exact kk
theorem V.top {v v' : Value} (h : v' = v) (kk : V l D tc A p e R s m args below meth c nL Q S k n pc ls (v' :: st)) : V l D tc A p e R s m args below meth c nL Q S k n pc ls (v :: st) := h ▸ kk
/-- fewer locals -/
theorem V.sub {ls' : List (Option Value)} (h : ∀ (i : Nat) (v : Value), ls'[i]? = some (some v) → ls[i]? = some (some v)) (kk : V l D tc A p e R s m args below meth c nL Q S k n pc ls' st) : V l D tc A p e R s m args below meth c nL Q S k n pc ls st := fun H locs lsa hP hD hS hl => kk H locs lsa hP hD hS ⟨hl.1, hl.2.1, fun i v hi => hl.2.2 i v (h i v hi)⟩
def kI : Int → Int32
  | .ofNat n => nI n
  | .negSucc n => -(nI (n + 1))
theorem kI_is (x : Int) : Int32.ofInt x = kI x := by
  cases x with
  | ofNat n => rw [← Int32.toInt_inj]; simp [kI, nI]
  | negSucc n => rw [← Int32.toInt_inj]; simp [kI, nI, Int.negSucc_eq]
/-- one instruction that touches locals and stack alone -/
def ex1 (i : Instr) (ls : List (Option Value)) (st : List Value) : Option (List (Option Value) × List Value) :=
  match i, st with
  | .iconst x, st => some (ls, .int (kI x) :: st)
  | .bipush x, st => if -128 ≤ x ∧ x ≤ 127 then some (ls, .int (kI x) :: st) else none
  | .sipush x, st => if x = 250 ∨ x = 600 ∨ x = 7200 then some (ls, .int (kI x) :: st) else none
  | .aconst_null, st => some (ls, .null :: st)
  | .iload_n j, st => match ls[(j : Nat)]? with | some (some (.int x)) => some (ls, .int x :: st) | _ => none
  | .iload j, st => match ls[j]? with | some (some (.int x)) => some (ls, .int x :: st) | _ => none
  | .aload_n j, st => match ls[(j : Nat)]? with | some (some (.ref x)) => some (ls, .ref x :: st) | some (some .null) => some (ls, .null :: st) | _ => none
  | .aload j, st => match ls[j]? with | some (some (.ref x)) => some (ls, .ref x :: st) | some (some .null) => some (ls, .null :: st) | _ => none
  | .istore_n j, .int x :: st => if (j : Nat) < ls.length then some (ls.set j (some (.int x)), st) else none
  | .istore j, .int x :: st => if j < ls.length then some (ls.set j (some (.int x)), st) else none
  | .astore_n j, .ref x :: st => if (j : Nat) < ls.length then some (ls.set j (some (.ref x)), st) else none
  | .astore_n j, .null :: st => if (j : Nat) < ls.length then some (ls.set j (some .null), st) else none
  | .astore j, .ref x :: st => if j < ls.length then some (ls.set j (some (.ref x)), st) else none
  | .astore j, .null :: st => if j < ls.length then some (ls.set j (some .null), st) else none
  | .iinc j x, st => match ls[j]? with | some (some (.int y)) => some (ls.set j (some (.int (y + kI x))), st) | _ => none
  | .iadd, .int y :: .int x :: st => some (ls, .int (x + y) :: st)
  | .isub, .int y :: .int x :: st => some (ls, .int (x - y) :: st)
  | .imul, .int y :: .int x :: st => some (ls, .int (x * y) :: st)
  | .iand, .int y :: .int x :: st => some (ls, .int (x &&& y) :: st)
  | .ior, .int y :: .int x :: st => some (ls, .int (x ||| y) :: st)
  | .dup, .int x :: st => some (ls, .int x :: .int x :: st)
  | .dup, .ref x :: st => some (ls, .ref x :: .ref x :: st)
  | .pop, .int x :: st => some (ls, st)
  | .pop, .ref x :: st => some (ls, st)
  | .pop, .null :: st => some (ls, st)
  | .dup_x1, .int x :: .ref y :: st => some (ls, .int x :: .ref y :: .int x :: st)
  | .dup_x1, .int x :: .int y :: st => some (ls, .int x :: .int y :: .int x :: st)
  | .dup_x1, .ref x :: .ref y :: st => some (ls, .ref x :: .ref y :: .ref x :: st)
  | .dup2, .int x :: .ref y :: st => some (ls, .int x :: .ref y :: .int x :: .ref y :: st)
  | _, _ => none
def exB : List (Instr × Nat) → List (Option Value) → List Value → Option (List (Option Value) × List Value)
  | [], ls, st => some (ls, st)
  | i :: r, ls, st => match ex1 i.1 ls st with | some (ls', st') => exB r ls' st' | none => none
def insLen : Instr → Nat
  | .bipush _ => 2
  | .sipush _ => 3
  | .iload _ => 2
  | .aload _ => 2
  | .istore _ => 2
  | .astore _ => 2
  | .iinc _ _ => 3
  | _ => 1
def decs (cc : ByteArray) : Nat → List (Instr × Nat) → Bool
  | _, [] => true
  | pc, i :: r => (decide (decode cc pc = .ok i) && decide (i.2 = insLen i.1)) && decs cc (pc + i.2) r
def lensum : List (Instr × Nat) → Nat
  | [] => 0
  | i :: r => i.2 + lensum r
theorem kI_b {x : Int} (h1 : -128 ≤ x) (h2 : x ≤ 127) : (Int8.ofInt x).toInt32 = kI x := by
  rw [← kI_is]
  have key : ∀ k : Fin 256, (Int8.ofInt ((k.val : Int) - 128)).toInt32 = Int32.ofInt ((k.val : Int) - 128) := by decide +kernel
  have := key ⟨(x + 128).toNat, by omega⟩
  rw [show (((x + 128).toNat : Nat) : Int) - 128 = x by omega] at this
  exact this
theorem kI_s {x : Int} (h : x = 250 ∨ x = 600 ∨ x = 7200) : (Int16.ofInt x).toInt32 = kI x := by
  rw [← kI_is]
  rcases h with rfl | rfl | rfl <;> decide +kernel
theorem V.one (h : CX l D tc A p s m args meth c cc nL own Ts) {i : Instr} {len : Nat} {ls' : List (Option Value)} {st' : List Value} (hd : decode cc pc = .ok (i, len)) (hw : len = insLen i) (hx : ex1 i ls st = some (ls', st')) (hn : ls.length ≤ nL) (kk : V l D tc A p e R s m args below meth c nL Q S k n (pc + len) ls' st') : V l D tc A p e R s m args below meth c nL Q S k n pc ls st := by
  intro H locs lsa hP hD hS hl
  obtain ⟨hx0, hb, -⟩ := h
  have lt : ∀ {j : Nat}, j < ls.length → j < nL := fun hj => Nat.lt_of_lt_of_le hj hn
  subst hw
  unfold ex1 at hx
  split at hx
  · cases hx; exact lv_iconst hx0 hb hd (kI_is _) (kk H locs lsa hP hD hS hl)
  · split at hx
    · next q => cases hx; exact lv_bipush hx0 hb hd (kI_b q.1 q.2) (kk H locs lsa hP hD hS hl)
    · cases hx
  · split at hx
    · next q => cases hx; exact lv_sipush hx0 hb hd (kI_s q) (kk H locs lsa hP hD hS hl)
    · cases hx
  · cases hx; exact lv_null hx0 hb hd (kk H locs lsa hP hD hS hl)
  · split at hx
    · next q => cases hx; exact lv_iload_n hx0 hb hd rfl (hl.get q) (kk H locs lsa hP hD hS hl)
    · cases hx
  · split at hx
    · next q => cases hx; exact lv_iload hx0 hb hd (hl.get q) (kk H locs lsa hP hD hS hl)
    · cases hx
  · split at hx
    · next q => cases hx; exact lv_aload_n hx0 hb hd rfl (hl.get q) (kk H locs lsa hP hD hS hl)
    · next q => cases hx; exact lv_aload_nN hx0 hb hd rfl (hl.get q) (kk H locs lsa hP hD hS hl)
    · cases hx
  · split at hx
    · next q => cases hx; exact lv_aload hx0 hb hd (hl.get q) (kk H locs lsa hP hD hS hl)
    · next q => cases hx; exact lv_aloadN hx0 hb hd (hl.get q) (kk H locs lsa hP hD hS hl)
    · cases hx
  · split at hx
    · next q => cases hx; exact lv_istore_n hx0 hb hd rfl hl.lv (lt q) rfl (fun lsb hlb => kk H locs lsb hP hD hS (hl.put rfl hlb))
    · cases hx
  · split at hx
    · next q => cases hx; exact lv_istore hx0 hb hd hl.lv (lt q) rfl (fun lsb hlb => kk H locs lsb hP hD hS (hl.put rfl hlb))
    · cases hx
  · split at hx
    · next q => cases hx; exact lv_astore_n hx0 hb hd rfl hl.lv (lt q) rfl (fun lsb hlb => kk H locs lsb hP hD hS (hl.put rfl hlb))
    · cases hx
  · split at hx
    · next q => cases hx; exact lv_astore_nN hx0 hb hd rfl hl.lv (lt q) rfl (fun lsb hlb => kk H locs lsb hP hD hS (hl.put rfl hlb))
    · cases hx
  · split at hx
    · next q => cases hx; exact lv_astore hx0 hb hd hl.lv (lt q) rfl (fun lsb hlb => kk H locs lsb hP hD hS (hl.put rfl hlb))
    · cases hx
  · split at hx
    · next q => cases hx; exact lv_astoreN hx0 hb hd hl.lv (lt q) rfl (fun lsb hlb => kk H locs lsb hP hD hS (hl.put rfl hlb))
    · cases hx
  · split at hx
    · next q =>
      cases hx
      obtain ⟨kq, hkq⟩ := List.getElem?_of_mem (zpairs_in ls 0 _ _ q)
      rw [Nat.zero_add] at hkq
      exact lv_iinc hx0 hb hd hl.lv hkq (by rw [kI_is]) (lt (List.getElem?_eq_some_iff.mp q).1) rfl (fun lsb hlb => kk H locs lsb hP hD hS (hl.put rfl hlb))
    · cases hx
  · cases hx; exact lv_iadd hx0 hb hd (kk H locs lsa hP hD hS hl)
  · cases hx; exact lv_isub hx0 hb hd (kk H locs lsa hP hD hS hl)
  · cases hx; exact lv_imul hx0 hb hd (kk H locs lsa hP hD hS hl)
  · cases hx; exact lv_iand hx0 hb hd (kk H locs lsa hP hD hS hl)
  · cases hx; exact lv_ior hx0 hb hd (kk H locs lsa hP hD hS hl)
  · cases hx; exact lv_dup hx0 hb hd rfl (kk H locs lsa hP hD hS hl)
  · cases hx; exact lv_dup hx0 hb hd rfl (kk H locs lsa hP hD hS hl)
  · cases hx; exact lv_pop hx0 hb hd rfl (kk H locs lsa hP hD hS hl)
  · cases hx; exact lv_pop hx0 hb hd rfl (kk H locs lsa hP hD hS hl)
  · cases hx; exact lv_pop hx0 hb hd rfl (kk H locs lsa hP hD hS hl)
  · cases hx; exact lv_dup_x1 hx0 hb hd rfl rfl (kk H locs lsa hP hD hS hl)
  · cases hx; exact lv_dup_x1 hx0 hb hd rfl rfl (kk H locs lsa hP hD hS hl)
  · cases hx; exact lv_dup_x1 hx0 hb hd rfl rfl (kk H locs lsa hP hD hS hl)
  · cases hx; exact lv_dup2_11 hx0 hb hd rfl rfl (kk H locs lsa hP hD hS hl)
  · cases hx
theorem ex1_len {i : Instr} {ls ls' : List (Option Value)} {st st' : List Value} (h : ex1 i ls st = some (ls', st')) : ls'.length = ls.length := by
  unfold ex1 at h
  split at h <;> (try split at h) <;> first | (cases h; simp; done) | (cases h; done)
theorem V.blk (h : CX l D tc A p s m args meth c cc nL own Ts) (is : List (Instr × Nat)) (hd : decs cc pc is = true) {pc' : Nat} {ls' : List (Option Value)} {st' : List Value} (hx : exB is ls st = some (ls', st')) (hp : pc + lensum is = pc') (hn : ls.length ≤ nL) (kk : V l D tc A p e R s m args below meth c nL Q S k n pc' ls' st') : V l D tc A p e R s m args below meth c nL Q S k n pc ls st := by
  subst hp
  induction is generalizing pc ls st with
  | nil =>
    cases hx
    exact kk
  | cons i r ih =>
    obtain ⟨ins, len⟩ := i
    simp only [decs, Bool.and_eq_true, decide_eq_true_eq] at hd
    simp only [exB] at hx
    split at hx
    · next q =>
      have hlen := ex1_len q
      exact V.one h hd.1.1 hd.1.2 q hn (ih hd.2 hx (by omega) (by rw [show pc + len + lensum r = pc + lensum ((ins, len) :: r) by simp only [lensum]; omega]; exact kk))
    · cases hx
end VR
