/-! ===== rows for the law: longs, the script, methods with handlers; parts of a heap ===== -/
theorem RA.ext2 {tc : Nat → ClassId} {a : Nat → Nat → Nat} {A : TS} {S S' : HS} (h : RA tc a A S) (hx : ∀ x, x ∈ zL S → zK S x ≠ 22 → x ∈ zL S' ∧ zK S' x = zK S x ∧ zN S' x = zN S x ∧ zA S' x = zA S x ∧ zR S' x = zR S x ∧ ∀ g, zI S' g x = zI S g x ∧ zP S' g x = zP S g x) : RA tc a A S' := by
  obtain ⟨hO, ⟨hL, hD⟩, hW⟩ := h
  have n22 : ∀ g i, lv A g i → g ≠ 22 := fun g i hl z => by rw [z] at hl; exact hl
  have hx' : ∀ g i, lv A g i → a g i ∈ zL S' ∧ zK S' (a g i) = zK S (a g i) ∧ zN S' (a g i) = zN S (a g i) ∧ zA S' (a g i) = zA S (a g i) ∧ zR S' (a g i) = zR S (a g i) ∧ ∀ f, zI S' f (a g i) = zI S f (a g i) ∧ zP S' f (a g i) = zP S f (a g i) := fun g i hl => hx _ (hO.1 g i hl).1 (by rw [(hO.1 g i hl).2]; exact n22 g i hl)
  refine ⟨?_, ⟨fun i hl => ?_, hD⟩, hW⟩
  · obtain ⟨h1, h2, h3, h4, h5, h6, h7⟩ := hO
    refine ⟨fun g i hl => ?_, h2, fun g i j hl e1 e2 hj => ?_, fun g i j hl e1 e2 hj => ?_, fun g i hl e1 => ?_, fun i k hl hk => ?_, fun g i k hl e1 hk => ?_⟩
    · obtain ⟨q1, q2⟩ := h1 g i hl
      obtain ⟨r1, r2, -⟩ := hx' g i hl
      exact ⟨r1, r2.trans q2⟩
    · exact ((hx' g i hl).2.2.2.2.2 _).1.trans (h3 g i j hl e1 e2 hj)
    · exact ((hx' g i hl).2.2.2.2.2 _).2.trans (h4 g i j hl e1 e2 hj)
    · exact (hx' g i hl).2.2.1.trans (h5 g i hl e1)
    · rw [(hx' 20 i hl).2.2.2.1]
      exact h6 i k hl hk
    · rw [(hx' g i hl).2.2.2.2.1]
      exact h7 g i k hl e1 hk
  · obtain ⟨q1, q2⟩ := hL i hl
    have hb := hx' 0 i hl
    have hM0 : a 50 i ≠ 0 → a 23 i ∈ zL S' ∧ zK S' (a 23 i) = zK S (a 23 i) ∧ zN S' (a 23 i) = zN S (a 23 i) ∧ zR S' (a 23 i) = zR S (a 23 i) := fun hM => by
      have w := q1.arr hM
      have := hx _ w.1 (by rw [w.2.1]; decide)
      exact ⟨this.1, this.2.1, this.2.2.1, this.2.2.2.2.1⟩
    refine ⟨⟨hb.1, hb.2.1.trans q1.2.1, (hb.2.2.2.2.2 1).2.trans q1.2.2.1, (hb.2.2.2.2.2 2).1.trans q1.2.2.2.1, q1.2.2.2.2.1, q1.2.2.2.2.2.1, ?_⟩, fun k hk => ?_⟩
    · rcases q1.2.2.2.2.2.2 with z | ⟨z1, z2, z3, z4⟩
      · exact Or.inl z
      · have w := hM0 (by omega)
        exact Or.inr ⟨z1, w.1, w.2.1.trans z3, w.2.2.1.trans z4⟩
    · have hM : a 50 i ≠ 0 := fun z => by
        have := q1.2.2.2.2.1
        omega
      rw [(hM0 hM).2.2.2]
      exact q2 k hk
theorem MW.ext {am : Nat} {ad : Nat → Nat} {A : TS} {S S' : HS} (h : MW am ad A S) (hx : ∀ x, x ∈ zL S → x ∈ zL S' ∧ zK S' x = zK S x ∧ zN S' x = zN S x ∧ zA S' x = zA S x ∧ ∀ g, zI S' g x = zI S g x ∧ zP S' g x = zP S g x) : MW am ad A S' := by
  obtain ⟨h1, h2, h3, h4, h5⟩ := h
  obtain ⟨e1, e2, e3, e4, e5⟩ := hx am h1
  refine ⟨e1, e2.trans h2, fun j hj => (e5 _).1.trans (h3 j hj), fun j hj => ?_, h5⟩
  obtain ⟨q1, q2, q3, q4, q5⟩ := h4 j hj
  obtain ⟨f1, f2, f3, f4, f5⟩ := hx _ q2
  exact ⟨(e5 _).2.trans q1, f1, f2.trans q3, f3.trans q4, fun i hi => by rw [f4]; exact q5 i hi⟩
/-- the array that a call's answer comes in -/
def OU (o : Nat) (S : HS) (x : Int64) : Prop := o ∈ zL S ∧ zK S o = 22 ∧ zN S o = 1 ∧ zJ S o 0 = x
def OU0 (o : Nat) (S : HS) : Prop := o ∈ zL S ∧ zK S o = 22 ∧ zN S o = 1
theorem OU.o {o : Nat} {S : HS} {x : Int64} (h : OU o S x) : OU0 o S := ⟨h.1, h.2.1, h.2.2.1⟩
def CMH (l : Launch) (D : va_G) (tc : Nat → ClassId) (y : MethodName) (hh : List (Nat × Nat × Nat × Nat)) (cc : ByteArray) (maxL : Nat) (ret : Option FieldType) (d mc ms : Nat) (av : List Value) (S : HS) (post : Option Value → HS → Prop) : Prop :=
  ∀ sz : Nat, Met l y (.codeWith y cc maxL ret hh :: WG) (rmd d mc ms) (zPc D tc av S sz) (zQ D tc post S sz) mc ms (zAd S sz)
theorem Met.ofWH {l : Launch} {y : MethodName} {ws ws' : List Cond} {rm : Room} {Pc : Array Value → State → Prop} {Qc : Array Value → State → Outcome → State → Prop} {mc ms : Nat} {free : Addr → Prop} {cc : ByteArray} {maxL : Nat} {ret : Option FieldType} {hh : List (Nat × Nat × Nat × Nat)}
    (hy : plainName y.cls = true) (hw : ws = Cond.codeWith y cc maxL ret hh :: ws')
    (body : ∀ p e s m args below meth c s₁, BodyLoose p l y (headSpec ws rm) cc maxL ret e s m args below meth c s₁ → c.maxLocals = maxL → Pc args s →
      W p l e (headSpec ws rm).room s m args below meth c s.heap [] 0 0 (MQ below Qc args s mc ms free) (entryFrame m args maxL)) : Met l y ws rm Pc Qc mc ms free := by
  refine MetFree.of_bodyS (code := cc) (maxLocals := maxL) (ret := ret) hy ?_ ?_
  · intro args s m h hn
    obtain ⟨m9, meth, c, hn9, h1, h2, h3, h4, -, h5, h6, -⟩ := Cond.codeWith_spec (atoms_spec (ws := ws) h _ (by rw [hw]; exact List.mem_cons_self))
    cases hn.symm.trans hn9
    exact ⟨meth, c, h1, h2, h3, h4, h5, h6⟩
  · intro p e s m args below meth c s₁ B hml hP _
    have hh0 : s₁.heap = s.heap := by rw [B.state]; rfl
    obtain ⟨t, a1, o, b1, b2, b3⟩ := body p e s m args below meth c s₁ B hml hP s₁ hh0 (Stand.of_body B)
    exact ⟨t, o, a1, b1, b2, ⟨b3.1, b3.2⟩⟩
section
variable {l : Launch} {D : va_G} {tc : Nat → ClassId} {A : Nat → Prop} {p : Program} {e : Env} {R : Room} {s : State} {m : MethodId} {args : Array Value} {below : List Frame} {meth : Method} {c : Code} {nL : Nat} {Q : State → Prop} {S : HS} {k n : Nat} {pc : Nat} {ls : List (Option Value)} {st : List Value} {cc : ByteArray} {own : String} {Ts : List Cond} {a b : Nat}
theorem CMH.of {y : MethodName} {maxL : Nat} {ret : Option FieldType} {d mc ms : Nat} {av : List Value} {post : Option Value → HS → Prop} {hh : List (Nat × Nat × Nat × Nat)} (hls : l.stackTraces = false) (hy : plainName y.cls = true) (hav : ∀ v ∈ av, v.category = 1) (hlen : av.length ≤ maxL)
    (body : ∀ (A : Nat → Prop) (p : Program) (e : Env) (s : State) (m : MethodId) (args : Array Value) (below : List Frame) (meth : Method) (c : Code) (sz : Nat), CX l D tc A p s m args meth c cc maxL y.cls (.codeWith y cc maxL ret hh :: WG) → c.exceptionTable.toList = tableOf hh → meth.sig.returnType = ret → A = zAd S sz →
      V l D tc A p e (rmd d mc ms) s m args below meth c maxL (MQ below (zQ D tc post S sz) args s mc ms (zAd S sz)) S 0 0 0 (av.map some ++ List.replicate (maxL - av.length) none) []) : CMH l D tc y hh cc maxL ret d mc ms av S post := by
  intro sz
  refine Met.ofWH (cc := cc) (maxL := maxL) (ret := ret) (hh := hh) hy rfl ?_
  intro p e s m args below meth c s₁ B hml hv
  obtain ⟨rfl, hsz, hP, hD0, hG⟩ := hv
  have hts := atoms_spec (ws := .codeWith y cc maxL ret hh :: WG) B.pre
  have htab : c.exceptionTable.toList = tableOf hh := vx_table (x := y) (maxL' := maxL) (ret' := ret) (bytes := cc) B (hts _ List.mem_cons_self)
  have hX : CX l D tc (zAd S sz) p s m av.toArray meth c cc maxL y.cls (.codeWith y cc maxL ret hh :: WG) := ⟨B.exec, B.bytes, hml, hts, findClass_of_methodNamed B.named, hG, fun q h => Or.inr (by omega), fun w h => List.mem_cons_of_mem _ h, B.notSynchronized, hls⟩
  have hb := body (zAd S sz) p e s m av.toArray below meth c sz hX htab B.returns rfl
  rw [lg_entry_eq]
  exact hb s.heap [] _ hP (hD0.narrow (fun q h => Or.inl h)) va_S.rf (zH_entry hav hlen)
theorem zGoodW {y : MethodName} {cy : ByteArray} {my : Nat} {ry : Option FieldType} {hh : List (Nat × Nat × Nat × Nat)} (h : CX l D tc A p s m args meth c cc nL own Ts) (hc : Cond.codeWith y cy my ry hh ∈ WG) : GoodIn Ts (.codeWith y cy my ry hh :: WG) := by
  intro w hw
  rcases List.mem_cons.mp hw with rfl | hw
  · exact ⟨h.2.2.2.2.2.2.2.1 _ hc, good_of_word (WG_good hc)⟩
  · exact ⟨h.2.2.2.2.2.2.2.1 _ hw, good_of_word (WG_good hw)⟩
/-- a static call of a method with handlers, over a part L1 of the heap -/
theorem V.callSWF {L L1 : List Nat} {y : MethodName} {cy : ByteArray} {my : Nat} {ry : Option FieldType} {hh : List (Nat × Nat × Nat × Nat)} {d mc ms np idx : Nat} {As : List Value} {post : Option Value → HS → Prop} (h : CX l D tc A p s m args meth c cc nL own Ts) (hF : PT S L L1) (hM : CMH l D tc y hh cy my ry d mc ms As (zSub S L1) post)
    (hc : Cond.codeWith y cy my ry hh ∈ WG) (hi : Cond.initialized y.cls ∈ WG) (hlk : Cond.methodLink own idx y ∈ WG) (hin : Cond.static y ∈ WG) (hy : yok y np = true) (hnp : As.length = np)
    (hfr : d + 1 ≤ R.frames) (hlo : 8 + (my + 11) + 36 * d ≤ R.locals) (hro : k + mc ≤ R.cells) (hrs : n + ms ≤ R.slots) (hst : (st.map fun v => v.category).sum ≤ 8) (hd : decode cc pc = .ok (.invokestatic idx, 3)) {st0 : List Value} (hst0 : st0 = As.reverse ++ st)
    (kk : ∀ (v : Option Value) (S' : HS), post v S' → V l D tc A p e R s m args below meth c nL Q (jn L S S') (k + mc) (n + ms) (pc + 3) ls (v.toList ++ st)) : V l D tc A p e R s m args below meth c nL Q S k n pc ls st0 := by
  refine V.call0F (a9 := As.toArray) h hF (fun H locs lsa hP hD hS hl => ?_) kk
  have hts := h.2.2.2.1
  have hWG := h.2.2.2.2.2.2.2.1
  have hy2 := yok_of hy
  have hpre : PreS s H (zPc D tc As (zSub S L1) H.size) As := ⟨zPc_blind, fun U hU hW => zPc_of h hP hD hS U hU hW⟩
  have hnum : ∀ sig, parseMethodDescriptor y.desc = some sig → np = sig.parameters.length := fun sig hs => by
    have h2 := hy2.2.2
    rw [hs] at h2
    exact (Option.some.inj h2).symm
  exact vx_runSW (n := np) (hh := hh) (bytes := cy) (maxL := my) (ret := ry) (index := idx) ⟨h.1, h.2.1, h.2.2.1, h.2.2.2.2.1, hts⟩ (hM H.size) ⟨⟨rfl, rfl, hfr, hlo, pay_in hts (zGoodW h hc), List.mem_cons_self⟩, hts _ (hWG _ hc), hts _ (hWG _ hi), ⟨hy2.1, hy2.2.1⟩, hnum, hts _ (hWG _ hlk), hts _ (hWG _ hin)⟩ hpre rfl hnp hl.1 hst0 (lv_room hst) hd ⟨hro, hrs⟩
theorem V.i2l (h : CX l D tc A p s m args meth c cc nL own Ts) {x : Int32} (d : decode cc pc = .ok (.i2l, 1)) (kk : V l D tc A p e R s m args below meth c nL Q S k n (pc + 1) ls (.long x.toInt64 :: st)) : V l D tc A p e R s m args below meth c nL Q S k n pc ls (.int x :: st) := fun H locs lsa hP hD hS hl => lv_i2l h.1 h.2.1 d rfl (kk H locs lsa hP hD hS hl)
theorem V.lconst (h : CX l D tc A p s m args meth c cc nL own Ts) {x : Fin 2} {v : Int64} (hv : Int64.ofNat (x : Nat) = v) (d : decode cc pc = .ok (.lconst x, 1)) (kk : V l D tc A p e R s m args below meth c nL Q S k n (pc + 1) ls (.long v :: st)) : V l D tc A p e R s m args below meth c nL Q S k n pc ls st := fun H locs lsa hP hD hS hl => lv_lconst h.1 h.2.1 d hv (kk H locs lsa hP hD hS hl)
theorem V.lcmp (h : CX l D tc A p s m args meth c cc nL own Ts) {x y : Int64} (d : decode cc pc = .ok (.lcmp, 1)) (kk : V l D tc A p e R s m args below meth c nL Q S k n (pc + 1) ls (.int (lg_cmp x y) :: st)) : V l D tc A p e R s m args below meth c nL Q S k n pc ls (.long y :: .long x :: st) := fun H locs lsa hP hD hS hl => W.lcmp h.1 h.2.1 d (kk H locs lsa hP hD hS hl)
theorem zW_arl (ha : a ∈ zL S) (hk : zK S a = 22) {M : Nat} (hN : zN S a = M) : ∃ i : Nat, (zW tc S)[i]? = some (a, .inl (tc 2, M, .inr (.inl (zJ S a)))) ∧ (zW tc S)[i]? = some (a, wC tc S a) := by
  obtain ⟨i, hi⟩ := zW_at tc ha
  exact ⟨i, by rw [hi, wC_arl hk, hN], hi⟩
theorem V.lald (h : CX l D tc A p s m args meth c cc nL own Ts) (ha : a ∈ zL S) (hk : zK S a = 22) {M i : Nat} (hN : zN S a = M) (hi : i < M) (hM : M < 2 ^ 31) (d : decode cc pc = .ok (.laload, 1)) {v : Int64} (hv : zJ S a i = v)
    (kk : V l D tc A p e R s m args below meth c nL Q S k n (pc + 1) ls (.long v :: st)) : V l D tc A p e R s m args below meth c nL Q S k n pc ls (.int (nI i) :: .ref a :: st) := by
  intro H locs lsa hP hD hS hl
  obtain ⟨hx, hb, hml, hts, hown, hG, hA, hWG, -, -⟩ := h
  obtain ⟨q0, hq, -⟩ := zW_arl (tc := tc) ha hk hN
  refine va_lald hx hb hG.1 hP q0 2 hq rfl (vp_in_nI hi hM) d ?_
  rw [nI_clamp (by omega), hv]
  exact kk H locs lsa hP hD hS hl
theorem V.last (h : CX l D tc A p s m args meth c cc nL own Ts) (ha : a ∈ zL S) (hk : zK S a = 22) {M i : Nat} (hN : zN S a = M) (hi : i < M) (hM : M < 2 ^ 31) (d : decode cc pc = .ok (.lastore, 1)) {v : Int64}
    (kk : V l D tc A p e R s m args below meth c nL Q (setJ S a (vp_updL (zJ S a) i v)) k n (pc + 1) ls st) : V l D tc A p e R s m args below meth c nL Q S k n pc ls (.long v :: .int (nI i) :: .ref a :: st) := by
  intro H locs lsa hP hD hS hl
  obtain ⟨hx, hb, hml, hts, hown, hG, hA, hWG, -, -⟩ := h
  obtain ⟨q0, hq, hq2⟩ := zW_arl (tc := tc) ha hk hN
  refine va_last hx hb hG.1 hP hD hS q0 2 hq rfl (vp_in_nI hi hM) d (fun H1 locs1 hP1 hD1 hS1 => ?_)
  rw [nI_clamp (show i < 2 ^ 31 by omega), ← hN] at hP1 hD1
  have e1 : (zW tc S).set q0 (a, .inl (tc 2, zN S a, .inr (.inl (vp_updL (zJ S a) i v)))) = zW tc (setJ S a (vp_updL (zJ S a) i v)) := zW_up hD ha hq2 rfl (wC_setJ tc S _ hk)
  exact kk H1 locs1 lsa (zP1_of e1 hP1) (zD1_of e1 hD1) hS1 hl
theorem V.newJ (h : CX l D tc A p s m args meth c cc nL own Ts) (hk : k + 1 ≤ R.cells) (hn : n + 1 ≤ R.slots) (d : decode cc pc = .ok (.newarray .long, 2))
    (kk : ∀ q : Nat, q ∉ zL S → V l D tc A p e R s m args below meth c nL Q (newA S q 22 1) (k + 1) (n + 1) (pc + 2) ls (.ref q :: st)) : V l D tc A p e R s m args below meth c nL Q S k n pc ls (.int (nI 1) :: st) := by
  intro H locs lsa hP hD hS hl
  obtain ⟨hx, hb, hml, hts, hown, hG, hA, hWG, -, -⟩ := h
  refine va_newa (atype := .long) (ty := .long) hx hb (show (Cond.arrayClass FieldType.long).before args s = true from hts _ (hWG _ wo_1384)) rfl hG.1 hP hD hS hA (a0 := (1, .inr (.inl (fun _ => 0)))) (N' := 1) (fun cA => by rw [vp_cell_l]; rfl) (nI_pos (by omega)) (nI_clamp (by omega)) (by decide) hk hn d (fun x cA H1 hK1 hP1 hD1 hS1 => ?_)
  have hcA : cA = tc 2 := by
    have h1 := (hK1.2 (ztys tc).length (cA, .long) (by simp)).2
    have h2 := hG.1.2
    exact Option.some.inj (h1.symm.trans (h2 2 _ rfl).2)
  subst hcA
  have hx : x ∉ zL S := fun hin => by
    obtain ⟨i, hi⟩ := zW_at tc hin
    have hlt := (List.getElem?_eq_some_iff.mp hi).1
    have h2 : (zW tc S ++ [(x, (.inl (tc 2, 1, .inr (.inl (fun _ => 0))) : va_E))])[i]? = some (x, wC tc S x) := by rw [List.getElem?_append_left hlt]; exact hi
    have h3 : (zW tc S ++ [(x, (.inl (tc 2, 1, .inr (.inl (fun _ => 0))) : va_E))])[(zW tc S).length]? = some (x, .inl (tc 2, 1, .inr (.inl (fun _ => 0)))) := by simp
    have := hD1.1 _ _ _ _ h2 h3 rfl
    omega
  have e0 : wC tc (newA S x 22 1) x = .inl (tc 2, 1, .inr (.inl (fun _ => 0))) := by
    rw [wC_arl (S := newA S x 22 1) (by simp [newA, zK, va_up])]
    simp [newA, zN, zJ, va_up]
  have e1 := zW_push (tc := tc) (S := S) (S' := newA S x 22 1) hx rfl (wC_newA tc S (q := x) (by omega) e0)
  exact kk x hx H1 locs lsa (zP1_of e1 hP1) (zD1_of e1 hD1) hS1 hl
/-! the script -/
theorem V.sld (h : CX l D tc A p s m args meth c cc nL own Ts) {L : Nat} {xs : Nat → Int32} (hX : va_X b L xs s s.heap) (hbl : b < s.heap.size) (hbA : ¬ A b) {i : Nat} (hi : i < L) (hL : L < 2 ^ 31) (d : decode cc pc = .ok (.iaload, 1)) (kk : V l D tc A p e R s m args below meth c nL Q S k n (pc + 1) ls (.int (xs i) :: st)) : V l D tc A p e R s m args below meth c nL Q S k n pc ls (.int (nI i) :: .ref b :: st) := by
  intro H locs lsa hP hD hS hl
  refine va_sld h.1 h.2.1 hX hbl hbA hS (vp_in_nI hi hL) d ?_
  rw [nI_clamp (by omega)]
  exact kk H locs lsa hP hD hS hl
theorem V.slen (h : CX l D tc A p s m args meth c cc nL own Ts) {L : Nat} {xs : Nat → Int32} (hX : va_X b L xs s s.heap) (hbl : b < s.heap.size) (hbA : ¬ A b) (d : decode cc pc = .ok (.arraylength, 1)) (kk : V l D tc A p e R s m args below meth c nL Q S k n (pc + 1) ls (.int (nI L) :: st)) : V l D tc A p e R s m args below meth c nL Q S k n pc ls (.ref b :: st) := by
  intro H locs lsa hP hD hS hl
  refine va_slen h.1 h.2.1 hX hbl hbA hS d ?_
  exact kk H locs lsa hP hD hS hl
/-- a heap's addresses stand once -/
theorem V.dist (kk : (∀ (i j : Nat) (a : Nat), (zL S)[i]? = some a → (zL S)[j]? = some a → i = j) → V l D tc A p e R s m args below meth c nL Q S k n pc ls st) : V l D tc A p e R s m args below meth c nL Q S k n pc ls st := fun H locs lsa hP hD hS hl => kk (zD1_iff.mp hD).1 H locs lsa hP hD hS hl
end
/-! cell of the law: an int of the script, 0 behind its end -/
def celV (xs : Nat → Int32) (L i : Nat) : Int32 := if i < L then xs i else nI 0
def zPX (D : va_G) (tc : Nat → ClassId) (av : List Value) (S : HS) (sz b L : Nat) (xs : Nat → Int32) : Array Value → State → Prop := va_Pc av (fun U => (U.heap.size = sz ∧ zP1 D tc S U.heap ∧ zD1 tc (fun _ => True) S ∧ GC D tc (zAd S sz) U U.heap) ∧ va_X b L xs U U.heap ∧ b < U.heap.size ∧ ¬ zAd S sz b)
theorem zPX_blind {D : va_G} {tc : Nat → ClassId} {av : List Value} {S : HS} {sz b L : Nat} {xs : Nat → Int32} : FrameBlind (zPX D tc av S sz b L xs) := fun a U g mk h => ⟨h.1, ⟨h.2.1.1, h.2.1.2.1, h.2.1.2.2.1, GC.same (u := U) rfl h.2.1.2.2.2⟩, va_X.moved (u := U) (Vm.Alike.refl U.vm) h.2.2.1, h.2.2.2⟩
section
variable {l : Launch} {D : va_G} {tc : Nat → ClassId}
theorem c_cell (hls : l.stackTraces = false) {S : HS} {b L i : Nat} {xs : Nat → Int32} (hi : i < 2 ^ 31) (hL : L < 2 ^ 31) (sz : Nat) : Met l yL_cell (.code yL_cell cL_cell 2 (some .int) :: WG) (rmd 1 0 0) (zPX D tc [.ref b, .int (nI i)] S sz b L xs) (zQ D tc (fun v S' => v = some (.int (celV xs L i)) ∧ S' = S) S sz) 0 0 (zAd S sz) := by
  refine Met.ofW (cc := cL_cell) (maxL := 2) (ret := some .int) (by decide +kernel) rfl ?_
  intro p e s m args below meth c s₁ B hml hv
  obtain ⟨rfl, ⟨hsz, hP, hD0, hG⟩, hX, hbl, hbA⟩ := hv
  have hts := atoms_spec (ws := .code yL_cell cL_cell 2 (some .int) :: WG) B.pre
  have h : CX l D tc (zAd S sz) p s m (List.toArray [.ref b, .int (nI i)]) meth c cL_cell 2 RL (.code yL_cell cL_cell 2 (some .int) :: WG) := ⟨B.exec, B.bytes, hml, hts, findClass_of_methodNamed B.named, hG, fun q h => Or.inr (by omega), fun w h => List.mem_cons_of_mem _ h, B.notSynchronized, hls⟩
  have hr := B.returns
  rw [lg_entry_eq]
  have key : V l D tc (zAd S sz) p e (rmd 1 0 0) s m (List.toArray [.ref b, .int (nI i)]) below meth c 2 (MQ below (zQ D tc (fun v S' => v = some (.int (celV xs L i)) ∧ S' = S) S sz) (List.toArray [.ref b, .int (nI i)]) s 0 0 (zAd S sz)) S 0 0 0 [some (.ref b), some (.int (nI i))] [] := by
    refine V.blk h [(.iload_n 1, 1), (.aload_n 0, 1)] (by decide +kernel) (pc' := 2) (ls' := [some (.ref b), some (.int (nI i))]) (st' := [.ref b, .int (nI i)]) rfl rfl (Nat.le_of_ble_eq_true rfl) ?_
    refine V.slen h hX hbl hbA (by decide +kernel) ?_
    refine V.icmp_ge h (off := 9) (by decide +kernel) (tgt := 12) (by decide) (fun q => ?_) (fun q => ?_)
    · have hge : L ≤ i := (nI_leI hL hi).mp q
      refine V.blk h [(.iconst 0, 1)] (by decide +kernel) (pc' := 13) (ls' := [some (.ref b), some (.int (nI i))]) (st' := [.int (nI 0)]) rfl rfl (Nat.le_of_ble_eq_true rfl) ?_
      exact V.iret h rfl hr rfl ⟨by unfold celV; rw [if_neg (by omega)], rfl⟩ (by decide +kernel) (Nat.zero_le _) (Nat.zero_le _)
    · have hlt : i < L := by
        rcases Nat.lt_or_ge i L with z | z
        · exact z
        · exact absurd ((nI_leI hL hi).mpr z) q
      refine V.blk h [(.aload_n 0, 1), (.iload_n 1, 1)] (by decide +kernel) (pc' := 8) (ls' := [some (.ref b), some (.int (nI i))]) (st' := [.int (nI i), .ref b]) rfl rfl (Nat.le_of_ble_eq_true rfl) ?_
      refine V.sld h hX hbl hbA hlt hL (by decide +kernel) ?_
      refine V.goto h (off := 4) (by decide +kernel) (tgt := 13) (by decide) ?_
      exact V.iret h rfl hr rfl ⟨by unfold celV; rw [if_pos hlt], rfl⟩ (by decide +kernel) (Nat.zero_le _) (Nat.zero_le _)
  exact key s.heap [] _ hP (hD0.narrow (fun q h => Or.inl h)) va_S.rf (zH_entry (av := [.ref b, .int (nI i)]) (by simp [Value.category]) (Nat.le_of_ble_eq_true rfl))
end
section
variable {l : Launch} {D : va_G} {tc : Nat → ClassId} {A : Nat → Prop} {p : Program} {e : Env} {R : Room} {s : State} {m : MethodId} {args : Array Value} {below : List Frame} {meth : Method} {c : Code} {nL : Nat} {Q : State → Prop} {S : HS} {k n : Nat} {pc : Nat} {ls : List (Option Value)} {st : List Value} {cc : ByteArray} {Ts : List Cond} {b : Nat}
theorem V.cell (h : CX l D tc A p s m args meth c cc nL RL Ts) (hls : l.stackTraces = false) {L i : Nat} {xs : Nat → Int32} (hX : va_X b L xs s s.heap) (hbl : b < s.heap.size) (hbA : ¬ A b) (hi : i < 2 ^ 31) (hL : L < 2 ^ 31)
    (hfr : 2 ≤ R.frames) (hlo : 60 ≤ R.locals) (hro : k ≤ R.cells) (hrs : n ≤ R.slots) (hst : (st.map fun v => v.category).sum ≤ 8) (hd : decode cc pc = .ok (.invokestatic 64, 3))
    (kk : V l D tc A p e R s m args below meth c nL Q S k n (pc + 3) ls (.int (celV xs L i) :: st)) : V l D tc A p e R s m args below meth c nL Q S k n pc ls (.int (nI i) :: .ref b :: st) := by
  refine V.call0 (mc := 0) (ms := 0) (st := st) (post := fun v S' => v = some (.int (celV xs L i)) ∧ S' = S) (a9 := (List.toArray [.ref b, .int (nI i)])) h (fun H locs lsa hP hD hS hl => ?_) (fun v S' hp => ?_)
  · have hts := h.2.2.2.1
    have hWG := h.2.2.2.2.2.2.2.1
    have hbH : b < H.size := Nat.lt_of_lt_of_le hbl hS.1
    have hsub := zAd_sub hD h.2.2.2.2.2.2.1 hS
    have hpre : PreS s H (zPX D tc [.ref b, .int (nI i)] S H.size b L xs) [.ref b, .int (nI i)] := ⟨zPX_blind, fun U hU hW => by
      have q := zPc_of (av := [.ref b, .int (nI i)]) h hP hD hS U hU hW
      refine ⟨q.1, q.2, ?_, by rw [hU]; exact hbH, fun z => hbA (hsub _ z)⟩
      rw [hU]
      exact va_X.moved hW.alike (hX.kept (hS.2.1 b hbl hbA))⟩
    exact va_runS (n := 2) ⟨h.1, h.2.1, h.2.2.1, h.2.2.2.2.1, hts⟩ (c_cell hls hi hL H.size) ⟨⟨rfl, rfl, hfr, (show 8 + (2 + 11) + 36 * 1 ≤ R.locals by omega), pay_in hts (zGood h wc_L_cell), List.mem_cons_self, hts _ (hWG _ wc_L_cell), hts _ (hWG _ wn_RL), ⟨by decide +kernel, by decide +kernel⟩, fun sig hs => by
      have h2 : (parseMethodDescriptor yL_cell.desc).map (fun d => d.parameters.length) = some 2 := by decide +kernel
      rw [hs] at h2
      exact (Option.some.inj h2).symm, hts _ (hWG _ wm_RL_64)⟩, hts _ (hWG _ wt_L_cell)⟩ hpre rfl rfl hl.1 rfl (lv_room hst) hd ⟨hro, hrs⟩
  · obtain ⟨rfl, rfl⟩ := hp
    exact kk
end
