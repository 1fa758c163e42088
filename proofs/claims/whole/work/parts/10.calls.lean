/-! ===== contracts over the typed heap; ends; calls ===== -/
/-- the room of a method over d levels of calls -/
def rmd (d mc ms : Nat) : Room := { frames := d, cells := mc, slots := ms, locals := 36 * d }
/-- the addresses that a method may touch: its heap's, and what it makes -/
def zAd (S : HS) (sz : Nat) : Nat → Prop := fun q => q ∈ zL S ∨ sz ≤ q
def zQ (D : va_G) (tc : Nat → ClassId) (post : Option Value → HS → Prop) (S : HS) (sz : Nat) : Array Value → State → Outcome → State → Prop := fun _ st oc t => ∃ (v : Option Value) (S' : HS), oc = .returned v ∧ post v S' ∧ zP1 D tc S' t.heap ∧ zD1 tc (zAd S sz) S' ∧ va_F (zAd S sz) st t
def zPc (D : va_G) (tc : Nat → ClassId) (av : List Value) (S : HS) (sz : Nat) : Array Value → State → Prop := va_Pc av (fun U => U.heap.size = sz ∧ zP1 D tc S U.heap ∧ zD1 tc (fun _ => True) S ∧ GC D tc (zAd S sz) U U.heap)
/-- a method's contract: from the heap S with these arguments it returns; 'post' says what, and the heap behind -/
def CM (l : Launch) (D : va_G) (tc : Nat → ClassId) (y : MethodName) (cc : ByteArray) (maxL : Nat) (ret : Option FieldType) (d mc ms : Nat) (av : List Value) (S : HS) (post : Option Value → HS → Prop) : Prop :=
  ∀ sz : Nat, Met l y (.code y cc maxL ret :: WG) (rmd d mc ms) (zPc D tc av S sz) (zQ D tc post S sz) mc ms (zAd S sz)
theorem zD1.narrow {tc : Nat → ClassId} {A B : Nat → Prop} {S : HS} (h : zD1 tc A S) (hq : ∀ q, q ∈ zL S → B q) : zD1 tc B S := h.weaken (fun i q hi _ => hq q.1 (by
  have := List.mem_of_getElem? hi
  obtain ⟨a, ha, rfl⟩ := List.mem_map.mp this
  exact ha))
theorem zD1.sub {tc : Nat → ClassId} {A B : Nat → Prop} {S : HS} (h : zD1 tc A S) (hq : ∀ q, A q → B q) : zD1 tc B S := h.weaken (fun _ q _ h => hq q.1 h)
theorem zD1.mem {tc : Nat → ClassId} {A : Nat → Prop} {S : HS} (h : zD1 tc A S) {q : Nat} (hq : q ∈ zL S) : A q := by
  obtain ⟨i, hi⟩ := zW_at tc hq
  exact h.2 i _ hi
theorem zAd_sub {tc : Nat → ClassId} {A : Nat → Prop} {S : HS} {H0 H : Heap} {locs : List Loc} (hD : zD1 tc A S) (hA : ∀ q, H0.size ≤ q → A q) (hS : va_S A H0 H locs) : ∀ q, zAd S H.size q → A q := fun q h => h.elim (fun h => hD.mem h) (fun h => hA q (Nat.le_trans hS.1 h))
theorem zPc_blind {D : va_G} {tc : Nat → ClassId} {av : List Value} {S : HS} {sz : Nat} : FrameBlind (zPc D tc av S sz) := fun a U g mk h => ⟨h.1, h.2.1, h.2.2.1, h.2.2.2.1, GC.same (u := U) rfl h.2.2.2.2⟩
section VC
variable {l : Launch} {D : va_G} {tc : Nat → ClassId} {A : Nat → Prop} {p : Program} {e : Env} {R : Room} {s : State} {m : MethodId} {args : Array Value} {below : List Frame} {meth : Method} {c : Code} {nL : Nat} {Q : State → Prop} {S : HS} {k n : Nat} {pc : Nat} {ls : List (Option Value)} {st : List Value} {cc : ByteArray} {own : String} {Ts : List Cond}
/-- the entry -/
theorem zH_entry {av : List Value} {n : Nat} (h1 : ∀ v ∈ av, v.category = 1) (h2 : av.length ≤ n) : zH ((lg_sl av ++ List.replicate (n - (lg_sl av).length) Slot.unset).toArray) n (av.map some ++ List.replicate (n - av.length) none) := by
  have hlen : (lg_sl av).length = av.length := by
    clear h2
    induction av with
    | nil => rfl
    | cons v r ih =>
      have e1 : lg_sl (v :: r) = .val v :: lg_sl r := by
        simp [lg_sl, h1 v List.mem_cons_self]
      rw [e1, List.length_cons, List.length_cons, ih (fun v hv => h1 v (List.mem_cons_of_mem _ hv))]
  refine zH.of (lv_entry av (by omega)) (fun i v hi => ?_)
  have hil : i < av.length := by
    rcases Nat.lt_or_ge i av.length with h | h
    · exact h
    · rw [List.getElem?_append_right (by simpa using h)] at hi
      have := List.mem_of_getElem? hi
      have := List.eq_of_mem_replicate this
      cases this
  rw [List.getElem?_append_left (by simpa using hil), List.getElem?_map] at hi
  have hv : av[i]? = some v := by
    cases hb : av[i]? with
    | none => rw [hb] at hi; cases hi
    | some w => rw [hb] at hi; simpa using hi
  refine ⟨?_, h1 v (List.mem_of_getElem? hv)⟩
  have key : ∀ (l : List Value) (i j : Nat) (v : Value), (∀ v ∈ l, v.category = 1) → l[j]? = some v → (i + j, v) ∈ lv_args i l := by
    intro l
    induction l with
    | nil => intro i j v _ h; simp at h
    | cons w r ih =>
      intro i j v hc h
      have hw : w.category = 1 := hc w List.mem_cons_self
      simp only [lv_args, hw]
      cases j with
      | zero =>
        have : w = v := by simpa using h
        subst this
        exact List.mem_cons_self
      | succ j =>
        refine List.mem_cons_of_mem _ ?_
        have := ih (i + 1) j v (fun v hv => hc v (List.mem_cons_of_mem _ hv)) (by simpa using h)
        rw [show i + 1 + j = i + (j + 1) by omega] at this
        simpa using this
  have := key av 0 i v h1 hv
  rwa [Nat.zero_add] at this
/-- a contract out of a walk of the body -/
theorem CM.of {y : MethodName} {maxL : Nat} {ret : Option FieldType} {d mc ms : Nat} {av : List Value} {post : Option Value → HS → Prop} (hls : l.stackTraces = false) (hy : plainName y.cls = true) (hav : ∀ v ∈ av, v.category = 1) (hlen : av.length ≤ maxL)
    (body : ∀ (A : Nat → Prop) (p : Program) (e : Env) (s : State) (m : MethodId) (args : Array Value) (below : List Frame) (meth : Method) (c : Code) (sz : Nat), CX l D tc A p s m args meth c cc maxL y.cls (.code y cc maxL ret :: WG) → meth.sig.returnType = ret → meth.name = y.name → A = zAd S sz →
      V l D tc A p e (rmd d mc ms) s m args below meth c maxL (MQ below (zQ D tc post S sz) args s mc ms (zAd S sz)) S 0 0 0 (av.map some ++ List.replicate (maxL - av.length) none) []) : CM l D tc y cc maxL ret d mc ms av S post := by
  intro sz
  refine Met.ofW (cc := cc) (maxL := maxL) (ret := ret) hy rfl ?_
  intro p e s m args below meth c s₁ B hml hv
  obtain ⟨rfl, hsz, hP, hD0, hG⟩ := hv
  have hts := atoms_spec (ws := .code y cc maxL ret :: WG) B.pre
  have hX : CX l D tc (zAd S sz) p s m av.toArray meth c cc maxL y.cls (.code y cc maxL ret :: WG) := ⟨B.exec, B.bytes, hml, hts, findClass_of_methodNamed B.named, hG, fun q h => Or.inr (by omega), fun w h => List.mem_cons_of_mem _ h, B.notSynchronized, hls⟩
  have hb := body (zAd S sz) p e s m av.toArray below meth c sz hX B.returns (name_of_methodNamed B.named B.method).1 rfl
  rw [lg_entry_eq]
  exact hb s.heap [] _ hP (hD0.narrow (fun q h => Or.inl h)) va_S.rf (zH_entry hav hlen)
/-! the ends -/
theorem V.iret {post : Option Value → HS → Prop} {S0 : HS} {sz mc ms : Nat} (h : CX l D tc A p s m args meth c cc nL own Ts) (hA : A = zAd S0 sz) {v : Int32} {ty : FieldType} (hr : meth.sig.returnType = some ty) (hn : narrow ty (.int v) = .int v) (hp : post (some (.int v)) S) (d : decode cc pc = .ok (.ireturn, 1)) (hk : k ≤ mc) (hs : n ≤ ms) :
    V l D tc A p e R s m args below meth c nL (MQ below (zQ D tc post S0 sz) args s mc ms (zAd S0 sz)) S k n pc ls [.int v] := by
  intro H locs lsa hP hD hS hl
  subst hA
  exact W.widen hk hs (W.zret h.1 h.2.1 hr hn (fun t ht _ => ⟨_, S, rfl, hp, by rw [ht]; exact hP, hD, hS.F ht⟩) hS.2.2 d h.2.2.2.2.2.2.2.2.1)
theorem V.vret {post : Option Value → HS → Prop} {S0 : HS} {sz mc ms : Nat} (h : CX l D tc A p s m args meth c cc nL own Ts) (hA : A = zAd S0 sz) (hr : meth.sig.returnType = none) (hp : post none S) (d : decode cc pc = .ok (.return_, 1)) (hk : k ≤ mc) (hs : n ≤ ms) :
    V l D tc A p e R s m args below meth c nL (MQ below (zQ D tc post S0 sz) args s mc ms (zAd S0 sz)) S k n pc ls [] := by
  intro H locs lsa hP hD hS hl
  subst hA
  exact W.widen hk hs (W.vret h.1 h.2.1 hr (fun t ht _ => ⟨_, S, rfl, hp, by rw [ht]; exact hP, hD, hS.F ht⟩) hS.2.2 d h.2.2.2.2.2.2.2.2.1)
theorem V.aret {post : Option Value → HS → Prop} {S0 : HS} {sz mc ms : Nat} (h : CX l D tc A p s m args meth c cc nL own Ts) (hA : A = zAd S0 sz) {o : Option Nat} {rt : FieldType} (hr : meth.sig.returnType = some rt) (hrt : (∃ n, rt = .object n) ∨ ∃ t, rt = .array t) (hp : post (some (va_rf o)) S) (d : decode cc pc = .ok (.areturn, 1)) (hk : k ≤ mc) (hs : n ≤ ms) :
    V l D tc A p e R s m args below meth c nL (MQ below (zQ D tc post S0 sz) args s mc ms (zAd S0 sz)) S k n pc ls [va_rf o] := by
  intro H locs lsa hP hD hS hl
  subst hA
  exact W.widen hk hs (W.aret h.1 h.2.1 hr hrt (va_rf_or o) (fun t ht _ => ⟨_, S, rfl, hp, by rw [ht]; exact hP, hD, hS.F ht⟩) hS.2.2 d h.2.2.2.2.2.2.2.2.1)
/-! calls -/
theorem V.call0 {post : Option Value → HS → Prop} {mc ms : Nat} {st0 : List Value} {a9 : Array Value} (h : CX l D tc A p s m args meth c cc nL own Ts)
    (hr : ∀ (H : Heap) (locs : List Loc) (lsa : Array Slot), zP1 D tc S H → zD1 tc A S → va_S A s.heap H locs → zH lsa nL ls → va_Run p l e R s m args below meth c H locs k n mc ms (F0 m pc lsa st0) st (zQ D tc post S H.size a9) (zAd S H.size))
    (kk : ∀ (v : Option Value) (S' : HS), post v S' → V l D tc A p e R s m args below meth c nL Q S' (k + mc) (n + ms) (pc + 3) ls (v.toList ++ st)) : V l D tc A p e R s m args below meth c nL Q S k n pc ls st0 := by
  intro H locs lsa hP hD hS hl
  have hA := h.2.2.2.2.2.2.1
  have hsub := zAd_sub hD hA hS
  intro X0 hX0 X
  obtain ⟨v, st₀, t, T', L, h0, X', hL, e1, e2, ⟨v2, S', hv, hp, hP1, hD1, hz, hk⟩, st⟩ := hr H locs lsa hP hD hS hl X0 hX0 X
  cases hv
  rw [h0] at hz hk
  obtain ⟨t2, a1, b1⟩ := kk v S' hp T'.heap (locs ++ L) lsa (by rw [e1]; exact hP1) (hD1.sub hsub)
    ⟨Nat.le_trans hS.1 (by rw [e1]; exact hz), fun q h1 h2 => by rw [e1, hk q (Nat.lt_of_lt_of_le h1 hS.1) (fun z => h2 (hsub q z))]; exact hS.2.1 q h1 h2, fun q hq => by
      rcases List.mem_append.mp hq with h | h
      · exact hS.2.2 q h
      · exact hsub _ (hL q h)⟩ hl T' rfl X'
  exact ⟨t2, st t2 a1, b1⟩
theorem zPc_of {av : List Value} {H : Heap} {locs : List Loc} (h : CX l D tc A p s m args meth c cc nL own Ts) (hP : zP1 D tc S H) (hD : zD1 tc A S) (hS : va_S A s.heap H locs) (U : State) (hU : U.heap = H) (hW : s.WarmedH U.vm) : zPc D tc av S H.size av.toArray U := by
  refine ⟨rfl, by rw [hU], by rw [hU]; exact hP, hD.sub (fun _ _ => trivial), ?_⟩
  have hG := h.2.2.2.2.2.1
  rw [hU]
  exact GC.warm hW (GC.narrow (zAd_sub hD h.2.2.2.2.2.2.1 hS) (GC.kept (fun a h1 h2 => hS.2.1 a h1 h2) hG))
theorem zGood {y : MethodName} {cy : ByteArray} {my : Nat} {ry : Option FieldType} (h : CX l D tc A p s m args meth c cc nL own Ts) (hc : Cond.code y cy my ry ∈ WG) : GoodIn Ts (.code y cy my ry :: WG) := by
  intro w hw
  rcases List.mem_cons.mp hw with rfl | hw
  · exact ⟨h.2.2.2.2.2.2.2.1 _ hc, good_of_word (WG_good hc)⟩
  · exact ⟨h.2.2.2.2.2.2.2.1 _ hw, good_of_word (WG_good hw)⟩
/-- what a call needs of its tables: the callee's code, that its class is made ready, its link from here -/
def ML (own : String) (idx : Nat) (y : MethodName) : Prop := Cond.methodLink own idx y ∈ WG ∨ ∃ host, Cond.methodLinkNest own idx y host ∈ WN
/-- a callee's name, checked by program: no handle's class; its number of parameters -/
def yok (y : MethodName) (np : Nat) : Bool := decide (y.cls ≠ "java/lang/invoke/MethodHandle") && decide (y.cls ≠ "java/lang/invoke/VarHandle") && decide ((parseMethodDescriptor y.desc).map (fun d => d.parameters.length) = some np)
theorem yok_of {y : MethodName} {np : Nat} (h : yok y np = true) : y.cls ≠ "java/lang/invoke/MethodHandle" ∧ y.cls ≠ "java/lang/invoke/VarHandle" ∧ (parseMethodDescriptor y.desc).map (fun d => d.parameters.length) = some np := by
  simp only [yok, Bool.and_eq_true, decide_eq_true_eq] at h
  exact ⟨h.1.1, h.1.2, h.2⟩
theorem V.callV {y : MethodName} {cy : ByteArray} {my : Nat} {ry : Option FieldType} {d mc ms np idx ci N b : Nat} {C : String} {T : u_T} {ty : Nat → FieldType} {As : List Value} {post : Option Value → HS → Prop} (h : CX l D tc A p s m args meth c cc nL own Ts) (hM : CM l D tc y cy my ry d mc ms (.ref b :: As) S post)
    (hc : Cond.code y cy my ry ∈ WG) (hi : Cond.initialized y.cls ∈ WG) (hlk : ML own idx y) (hin : Cond.instanceMethod y ∈ WG) (hse : Cond.selects C y y ∈ WG) (hy : yok y np = true) (hnp : As.length = np) (q : CLS ci C T N ty) (hb : b ∈ zL S) (hbk : zK S b = ci)
    (hfr : d + 1 ≤ R.frames) (hlo : 8 + (my + 11) + 36 * d ≤ R.locals) (hro : k + mc ≤ R.cells) (hrs : n + ms ≤ R.slots) (hst : (st.map fun v => v.category).sum ≤ 8) (hd : decode cc pc = .ok (.invokevirtual idx, 3)) {st0 : List Value} (hst0 : st0 = As.reverse ++ .ref b :: st)
    (kk : ∀ (v : Option Value) (S' : HS), post v S' → V l D tc A p e R s m args below meth c nL Q S' (k + mc) (n + ms) (pc + 3) ls (v.toList ++ st)) : V l D tc A p e R s m args below meth c nL Q S k n pc ls st0 := by
  refine V.call0 (a9 := (Value.ref b :: As).toArray) h (fun H locs lsa hP hD hS hl => ?_) kk
  have hts := h.2.2.2.1
  have hWG := h.2.2.2.2.2.2.2.1
  have hy2 := yok_of hy
  obtain ⟨i, hi9, -⟩ := zW_obj (tc := tc) (A := A) q hb hbk
  have hpre : PreV s H C b (zPc D tc (.ref b :: As) S H.size) As := ⟨zPc_blind, va_recv h.2.2.2.2.2.1.1 hP q.1 hi9, fun U hU hW => zPc_of h hP hD hS U hU hW⟩
  have hnum : ∀ sig, parseMethodDescriptor y.desc = some sig → np = sig.parameters.length := fun sig hs => by
    have h2 := hy2.2.2
    rw [hs] at h2
    exact (Option.some.inj h2).symm
  rcases hlk with hlk | ⟨host, hlk⟩
  · exact va_runV (n := np) ⟨h.1, h.2.1, h.2.2.1, h.2.2.2.2.1, hts⟩ (hM H.size) ⟨⟨rfl, rfl, hfr, hlo, pay_in hts (zGood h hc), List.mem_cons_self, hts _ (hWG _ hc), hts _ (hWG _ hi), ⟨hy2.1, hy2.2.1⟩, hnum, hts _ (hWG _ hlk)⟩, hts _ (hWG _ hin), hts _ (hWG _ hse)⟩ hpre rfl hnp hl.1 hst0 (lv_room hst) hd ⟨hro, hrs⟩
  · exact va_runVN (n := np) ⟨h.1, h.2.1, h.2.2.1, h.2.2.2.2.1, hts⟩ (hM H.size) ⟨⟨⟨rfl, rfl, hfr, hlo, pay_in hts (zGood h hc), List.mem_cons_self⟩, hts _ (hWG _ hc), hts _ (hWG _ hi), ⟨hy2.1, hy2.2.1⟩, hnum, va_Nw.use rfl (h.2.2.2.2.2.1.2.1 _ hlk)⟩, hts _ (hWG _ hin), hts _ (hWG _ hse)⟩ hpre rfl hnp hl.1 hst0 (lv_room hst) hd ⟨hro, hrs⟩
theorem V.callS {y : MethodName} {cy : ByteArray} {my : Nat} {ry : Option FieldType} {d mc ms np idx : Nat} {As : List Value} {post : Option Value → HS → Prop} (h : CX l D tc A p s m args meth c cc nL own Ts) (hM : CM l D tc y cy my ry d mc ms As S post)
    (hc : Cond.code y cy my ry ∈ WG) (hi : Cond.initialized y.cls ∈ WG) (hlk : ML own idx y) (hin : Cond.static y ∈ WG) (hy : yok y np = true) (hnp : As.length = np)
    (hfr : d + 1 ≤ R.frames) (hlo : 8 + (my + 11) + 36 * d ≤ R.locals) (hro : k + mc ≤ R.cells) (hrs : n + ms ≤ R.slots) (hst : (st.map fun v => v.category).sum ≤ 8) (hd : decode cc pc = .ok (.invokestatic idx, 3)) {st0 : List Value} (hst0 : st0 = As.reverse ++ st)
    (kk : ∀ (v : Option Value) (S' : HS), post v S' → V l D tc A p e R s m args below meth c nL Q S' (k + mc) (n + ms) (pc + 3) ls (v.toList ++ st)) : V l D tc A p e R s m args below meth c nL Q S k n pc ls st0 := by
  refine V.call0 (a9 := As.toArray) h (fun H locs lsa hP hD hS hl => ?_) kk
  have hts := h.2.2.2.1
  have hWG := h.2.2.2.2.2.2.2.1
  have hy2 := yok_of hy
  have hpre : PreS s H (zPc D tc As S H.size) As := ⟨zPc_blind, fun U hU hW => zPc_of h hP hD hS U hU hW⟩
  have hnum : ∀ sig, parseMethodDescriptor y.desc = some sig → np = sig.parameters.length := fun sig hs => by
    have h2 := hy2.2.2
    rw [hs] at h2
    exact (Option.some.inj h2).symm
  rcases hlk with hlk | ⟨host, hlk⟩
  · exact va_runS (n := np) ⟨h.1, h.2.1, h.2.2.1, h.2.2.2.2.1, hts⟩ (hM H.size) ⟨⟨rfl, rfl, hfr, hlo, pay_in hts (zGood h hc), List.mem_cons_self, hts _ (hWG _ hc), hts _ (hWG _ hi), ⟨hy2.1, hy2.2.1⟩, hnum, hts _ (hWG _ hlk)⟩, hts _ (hWG _ hin)⟩ hpre rfl hnp hl.1 hst0 (lv_room hst) hd ⟨hro, hrs⟩
  · exact va_runSN (n := np) ⟨h.1, h.2.1, h.2.2.1, h.2.2.2.2.1, hts⟩ (hM H.size) ⟨⟨⟨rfl, rfl, hfr, hlo, pay_in hts (zGood h hc), List.mem_cons_self⟩, hts _ (hWG _ hc), hts _ (hWG _ hi), ⟨hy2.1, hy2.2.1⟩, hnum, va_Nw.use rfl (h.2.2.2.2.2.1.2.1 _ hlk)⟩, hts _ (hWG _ hin), trivial⟩ hpre rfl hnp hl.1 hst0 (lv_room hst) hd ⟨hro, hrs⟩
theorem V.callI {y : MethodName} {cy : ByteArray} {my : Nat} {d mc ms np idx b : Nat} {As : List Value} {post : Option Value → HS → Prop} (h : CX l D tc A p s m args meth c cc nL own Ts) (hM : CM l D tc y cy my none d mc ms (.ref b :: As) S post)
    (hc : Cond.code y cy my none ∈ WG) (hi : Cond.initialized y.cls ∈ WG) (hlk : ML own idx y) (hin : Cond.instanceMethod y ∈ WG) (hnm : y.name = "<init>") (hy : yok y np = true) (hnp : As.length = np)
    (hfr : d + 1 ≤ R.frames) (hlo : 8 + (my + 11) + 36 * d ≤ R.locals) (hro : k + mc ≤ R.cells) (hrs : n + ms ≤ R.slots) (hst : (st.map fun v => v.category).sum ≤ 8) (hd : decode cc pc = .ok (.invokespecial idx, 3)) {st0 : List Value} (hst0 : st0 = As.reverse ++ .ref b :: st)
    (kk : ∀ (v : Option Value) (S' : HS), post v S' → V l D tc A p e R s m args below meth c nL Q S' (k + mc) (n + ms) (pc + 3) ls (v.toList ++ st)) : V l D tc A p e R s m args below meth c nL Q S k n pc ls st0 := by
  refine V.call0 (a9 := (Value.ref b :: As).toArray) h (fun H locs lsa hP hD hS hl => ?_) kk
  have hts := h.2.2.2.1
  have hWG := h.2.2.2.2.2.2.2.1
  have hy2 := yok_of hy
  have hpre : PreS s H (zPc D tc (.ref b :: As) S H.size) (.ref b :: As) := ⟨zPc_blind, fun U hU hW => zPc_of h hP hD hS U hU hW⟩
  have hnum : ∀ sig, parseMethodDescriptor y.desc = some sig → np = sig.parameters.length := fun sig hs => by
    have h2 := hy2.2.2
    rw [hs] at h2
    exact (Option.some.inj h2).symm
  rcases hlk with hlk | ⟨host, hlk⟩
  · exact va_runI (n := np) ⟨h.1, h.2.1, h.2.2.1, h.2.2.2.2.1, hts⟩ (hM H.size) ⟨⟨rfl, rfl, hfr, hlo, pay_in hts (zGood h hc), List.mem_cons_self, hts _ (hWG _ hc), hts _ (hWG _ hi), ⟨hy2.1, hy2.2.1⟩, hnum, hts _ (hWG _ hlk)⟩, hnm, hts _ (hWG _ hin)⟩ hpre rfl hnp hl.1 hst0 (lv_room hst) hd ⟨hro, hrs⟩
  · exact va_runIN (n := np) ⟨h.1, h.2.1, h.2.2.1, h.2.2.2.2.1, hts⟩ (hM H.size) ⟨⟨⟨rfl, rfl, hfr, hlo, pay_in hts (zGood h hc), List.mem_cons_self⟩, hts _ (hWG _ hc), hts _ (hWG _ hi), ⟨hy2.1, hy2.2.1⟩, hnum, va_Nw.use rfl (h.2.2.2.2.2.1.2.1 _ hlk)⟩, hnm, hts _ (hWG _ hin)⟩ hpre rfl hnp hl.1 hst0 (lv_room hst) hd ⟨hro, hrs⟩
end VC
