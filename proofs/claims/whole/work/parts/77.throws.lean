/-! ===== methods that throw: contracts CT; VX: a thing is thrown at a place ===== -/
def zQ0 : Array Value → State → Outcome → State → Prop := fun _ _ _ _ => False
def zXC (D : va_G) (tc : Nat → ClassId) (E : String) (S : HS) (sz : Nat) : String → State → State → Prop := fun E' st t => E' = E ∧ zP1 D tc S t.heap ∧ va_F (zAd S sz) st t
/-- a contract: from the heap S with these arguments it throws an E; the heap stays -/
def CT (l : Launch) (D : va_G) (tc : Nat → ClassId) (y : MethodName) (cc : ByteArray) (maxL : Nat) (ret : Option FieldType) (d mc ms : Nat) (av : List Value) (S : HS) (E : String) : Prop :=
  ∀ sz : Nat, vx_Met l y (.code y cc maxL ret :: WG) (rmd d mc ms) (zPc D tc av S sz) zQ0 (zXC D tc E S sz) mc ms (zAd S sz)
/-- what a body that throws owes -/
def XQ (D : va_G) (tc : Nat → ClassId) (E : String) (S : HS) (sz : Nat) (below : List Frame) (args : Array Value) (s : State) (mc ms : Nat) : State → Prop := vx_MQ below zQ0 (zXC D tc E S sz) args s mc ms (zAd S sz)
def VX (l : Launch) (D : va_G) (tc : Nat → ClassId) (A : Nat → Prop) (p : Program) (e : Env) (R : Room) (s : State) (m : MethodId) (args : Array Value) (below : List Frame) (meth : Method) (c : Code) (nL : Nat) (Q : State → Prop) (E : String) (S : HS) (k n : Nat) (pc : Nat) (ls : List (Option Value)) (st : List Value) : Prop :=
  ∀ (H : Heap) (locs : List Loc) (lsa : Array Slot) (q : Addr) (ce : Cell), zP1 D tc S H → zD1 tc A S → va_S A s.heap H locs → zH lsa nL ls → H[q]? = some ce → ce.vm = .none → s.vm.findClass E = some ce.cls → vx_W p l e R s m args below meth c H locs k n Q (F0 m pc lsa st) q
def nmX : List String := ["java/lang/RuntimeException", "java/lang/Exception"]
theorem WK_tab : WK.all Cond.onTables = true := by decide +kernel
section VXX
variable {l : Launch} {D : va_G} {tc : Nat → ClassId} {A : Nat → Prop} {p : Program} {e : Env} {R : Room} {s : State} {m : MethodId} {args : Array Value} {below : List Frame} {meth : Method} {c : Code} {nL : Nat} {Q : State → Prop} {S : HS} {k n : Nat} {pc : Nat} {ls : List (Option Value)} {st : List Value} {cc : ByteArray} {own : String} {Ts : List Cond}
theorem CX.wg (h : CX l D tc A p s m args meth c cc nL own Ts) {w : Cond} (hw : w ∈ WG) : w.before args s = true := h.2.2.2.1 _ (h.2.2.2.2.2.2.2.1 _ hw)
theorem CX.wk (h : CX l D tc A p s m args meth c cc nL own Ts) {w : Cond} (hw : w ∈ WK) : w.before args s = true := va_Nw.use (List.all_eq_true.mp WK_tab w hw) (h.2.2.2.2.2.1.2.2.2.2.1 w hw)
theorem CT.of {y : MethodName} {maxL : Nat} {ret : Option FieldType} {d mc ms : Nat} {av : List Value} {E : String} (hls : l.stackTraces = false) (hy : plainName y.cls = true) (hav : ∀ v ∈ av, v.category = 1) (hlen : av.length ≤ maxL)
    (body : ∀ (A : Nat → Prop) (p : Program) (e : Env) (s : State) (m : MethodId) (args : Array Value) (below : List Frame) (meth : Method) (c : Code) (sz : Nat), CX l D tc A p s m args meth c cc maxL y.cls (.code y cc maxL ret :: WG) → (∀ x ∈ c.exceptionTable.toList, False) → A = zAd S sz →
      V l D tc A p e (rmd d mc ms) s m args below meth c maxL (XQ D tc E S sz below args s mc ms) S 0 0 0 (av.map some ++ List.replicate (maxL - av.length) none) []) : CT l D tc y cc maxL ret d mc ms av S E := by
  intro sz
  refine vx_ofW (cc := cc) (maxL := maxL) (ret := ret) hy rfl ?_
  intro p e s m args below meth c s₁ B hml hx hv
  obtain ⟨rfl, hsz, hP, hD0, hG⟩ := hv
  have hts := atoms_spec (ws := .code y cc maxL ret :: WG) B.pre
  have hX : CX l D tc (zAd S sz) p s m av.toArray meth c cc maxL y.cls (.code y cc maxL ret :: WG) := ⟨B.exec, B.bytes, hml, hts, findClass_of_methodNamed B.named, hG, fun q h => Or.inr (by omega), fun w h => List.mem_cons_of_mem _ h, B.notSynchronized, hls⟩
  have hb := body (zAd S sz) p e s m av.toArray below meth c sz hX hx rfl
  rw [lg_entry_eq]
  exact hb s.heap [] _ hP (hD0.narrow (fun q h => Or.inl h)) va_S.rf (zH_entry hav hlen)
theorem V.callX0 {E : String} {mc ms : Nat} {st0 : List Value} {a9 : Array Value} (h : CX l D tc A p s m args meth c cc nL own Ts)
    (hr : ∀ (H : Heap) (locs : List Loc) (lsa : Array Slot), zP1 D tc S H → zD1 tc A S → va_S A s.heap H locs → zH lsa nL ls → vx_Run p l e R s m args below meth c H locs k n mc ms (F0 m pc lsa st0) st (zQ0 a9) (zXC D tc E S H.size) (zAd S H.size))
    (kk : VX l D tc A p e R s m args below meth c nL Q E S (k + mc) (n + ms) pc ls st) : V l D tc A p e R s m args below meth c nL Q S k n pc ls st0 := by
  intro H locs lsa hP hD hS hl
  have hA := h.2.2.2.2.2.2.1
  have hsub := zAd_sub hD hA hS
  intro X0 hX0 X
  rcases hr H locs lsa hP hD hS hl X0 hX0 X with ⟨v, st₀, t, T', L, h0, X', hL, e1, e2, hF, st⟩ | ⟨q, st₀, t, T', L, E', ce, h0, X', hL, e1, e2, ⟨rfl, hP1, hz, hk⟩, hce, hcv, hcl, st⟩
  · exact hF.elim
  · rw [h0] at hz hk
    obtain ⟨t2, a1, b1⟩ := kk T'.heap (locs ++ L) lsa q ce (by rw [e1]; exact hP1) hD
      ⟨Nat.le_trans hS.1 (by rw [e1]; exact hz), fun q h1 h2 => by rw [e1, hk q (Nat.lt_of_lt_of_le h1 hS.1) (fun z => h2 (hsub q z))]; exact hS.2.1 q h1 h2, fun q hq => by
        rcases List.mem_append.mp hq with h | h
        · exact hS.2.2 q h
        · exact hsub _ (hL q h)⟩ hl (by rw [e1]; exact hce) hcv hcl T' rfl X'
    exact ⟨t2, st.trans a1, b1⟩
theorem V.callSX {y : MethodName} {cy : ByteArray} {my : Nat} {ry : Option FieldType} {d mc ms np idx : Nat} {As : List Value} {E : String} (h : CX l D tc A p s m args meth c cc nL own Ts) (hM : CT l D tc y cy my ry d mc ms As S E)
    (hc : Cond.code y cy my ry ∈ WG) (hi : Cond.initialized y.cls ∈ WG) (hlk : Cond.methodLink own idx y ∈ WG) (hin : Cond.static y ∈ WG) (hy : yok y np = true) (hnp : As.length = np)
    (hfr : d + 1 ≤ R.frames) (hlo : 8 + (my + 11) + 36 * d ≤ R.locals) (hro : k + mc ≤ R.cells) (hrs : n + ms ≤ R.slots) (hst : (st.map fun v => v.category).sum ≤ 8) (hd : decode cc pc = .ok (.invokestatic idx, 3)) {st0 : List Value} (hst0 : st0 = As.reverse ++ st)
    (kk : VX l D tc A p e R s m args below meth c nL Q E S (k + mc) (n + ms) pc ls st) : V l D tc A p e R s m args below meth c nL Q S k n pc ls st0 := by
  refine V.callX0 (a9 := As.toArray) h (fun H locs lsa hP hD hS hl => ?_) kk
  have hts := h.2.2.2.1
  have hWG := h.2.2.2.2.2.2.2.1
  have hy2 := yok_of hy
  have hpre : PreS s H (zPc D tc As S H.size) As := ⟨zPc_blind, fun U hU hW => zPc_of h hP hD hS U hU hW⟩
  have hnum : ∀ sig, parseMethodDescriptor y.desc = some sig → np = sig.parameters.length := fun sig hs => by
    have h2 := hy2.2.2
    rw [hs] at h2
    exact (Option.some.inj h2).symm
  exact vx_runS (n := np) ⟨h.1, h.2.1, h.2.2.1, h.2.2.2.2.1, hts⟩ (hM H.size) ⟨⟨rfl, rfl, hfr, hlo, pay_in hts (zGood h hc), List.mem_cons_self, hts _ (hWG _ hc), hts _ (hWG _ hi), ⟨hy2.1, hy2.2.1⟩, hnum, hts _ (hWG _ hlk)⟩, hts _ (hWG _ hin)⟩ hpre rfl hnp hl.1 hst0 (lv_room hst) hd ⟨hro, hrs⟩
theorem V.callVX {y : MethodName} {cy : ByteArray} {my : Nat} {ry : Option FieldType} {d mc ms np idx ci N b : Nat} {C : String} {T : u_T} {ty : Nat → FieldType} {As : List Value} {E : String} (h : CX l D tc A p s m args meth c cc nL own Ts) (hM : CT l D tc y cy my ry d mc ms (.ref b :: As) S E)
    (hc : Cond.code y cy my ry ∈ WG) (hi : Cond.initialized y.cls ∈ WG) (hlk : Cond.methodLink own idx y ∈ WG) (hin : Cond.instanceMethod y ∈ WG) (hse : Cond.selects C y y ∈ WG) (hy : yok y np = true) (hnp : As.length = np) (q : CLS ci C T N ty) (hb : b ∈ zL S) (hbk : zK S b = ci)
    (hfr : d + 1 ≤ R.frames) (hlo : 8 + (my + 11) + 36 * d ≤ R.locals) (hro : k + mc ≤ R.cells) (hrs : n + ms ≤ R.slots) (hst : (st.map fun v => v.category).sum ≤ 8) (hd : decode cc pc = .ok (.invokevirtual idx, 3)) {st0 : List Value} (hst0 : st0 = As.reverse ++ .ref b :: st)
    (kk : VX l D tc A p e R s m args below meth c nL Q E S (k + mc) (n + ms) pc ls st) : V l D tc A p e R s m args below meth c nL Q S k n pc ls st0 := by
  refine V.callX0 (a9 := (Value.ref b :: As).toArray) h (fun H locs lsa hP hD hS hl => ?_) kk
  have hts := h.2.2.2.1
  have hWG := h.2.2.2.2.2.2.2.1
  have hy2 := yok_of hy
  obtain ⟨i, hi9, -⟩ := zW_obj (tc := tc) (A := A) q hb hbk
  have hpre : PreV s H C b (zPc D tc (.ref b :: As) S H.size) As := ⟨zPc_blind, va_recv h.2.2.2.2.2.1.1 hP q.1 hi9, fun U hU hW => zPc_of h hP hD hS U hU hW⟩
  have hnum : ∀ sig, parseMethodDescriptor y.desc = some sig → np = sig.parameters.length := fun sig hs => by
    have h2 := hy2.2.2
    rw [hs] at h2
    exact (Option.some.inj h2).symm
  exact vx_runV (n := np) ⟨h.1, h.2.1, h.2.2.1, h.2.2.2.2.1, hts⟩ (hM H.size) ⟨⟨rfl, rfl, hfr, hlo, pay_in hts (zGood h hc), List.mem_cons_self, hts _ (hWG _ hc), hts _ (hWG _ hi), ⟨hy2.1, hy2.2.1⟩, hnum, hts _ (hWG _ hlk)⟩, hts _ (hWG _ hin), hts _ (hWG _ hse)⟩ hpre rfl hnp hl.1 hst0 (lv_room hst) hd ⟨hro, hrs⟩
/-- it goes on to the caller -/
theorem VX.out {E : String} {sz MC MS : Nat} (h : CX l D tc A p s m args meth c cc nL own Ts) (hA : A = zAd S sz) (hnx : ∀ x ∈ c.exceptionTable.toList, False) (hk : k ≤ MC) (hs : n ≤ MS) : VX l D tc A p e R s m args below meth c nL (XQ D tc E S sz below args s MC MS) E S k n pc ls st := by
  intro H locs lsa q ce hP hD hS hl hcell hv hcl
  subst hA
  exact vx_out (fun x hx => (hnx x hx).elim) h.2.2.2.2.2.2.2.2.1 hcell hv hcl (fun t ht _ => ⟨rfl, by rw [ht]; exact hP, hS.F ht⟩) hS.2.2 hk hs
/-- it is caught here -/
theorem VX.catch {E name : String} (h : CX l D tc A p s m args meth c cc nL own Ts) (pre : List ExceptionTableEntry) (x : ExceptionTableEntry) (suf : List ExceptionTableEntry) (hsplit : c.exceptionTable.toList = pre ++ x :: suf)
    (hpass : ∀ z ∈ pre, covers z pc = false ∨ (z.catchType ≠ 0 ∧ ∃ nm : String, (Cond.classLink own z.catchType nm).before args s = true ∧ va_Nc E nm s)) (hx : covers x pc = true) (h0 : x.catchType ≠ 0) (hlink : Cond.classLink own x.catchType name ∈ WG) (hcast : Cond.castable E name ∈ WK)
    (kk : ∀ q : Addr, V l D tc A p e R s m args below meth c nL Q S k n x.handlerPc ls [.ref q]) : VX l D tc A p e R s m args below meth c nL Q E S k n pc ls st := fun H locs lsa q ce hP hD hS hl hcell hv hcl =>
  vx_catch h.2.2.2.2.1 pre x suf hsplit hpass hx h0 (h.wg hlink) (h.wk hcast) hcell hv hcl (kk q H locs lsa hP hD hS hl)
/-- throw new E() -/
theorem V.throw0 {E : String} {ik ic sz MC MS : Nat} (h : CX l D tc A p s m args meth c cc nL own Ts) (hA : A = zAd S sz) (hnx : ∀ x ∈ c.exceptionTable.toList, False) (hfit : Bundle.fit E = true) (hk : Cond.classLink own ik E ∈ WG) (hi : Cond.initialized E ∈ WG)
    (hat : ∀ w ∈ vx_at0 own ic E nmX, w ∈ WG ∨ w ∈ WK) (hg : ∀ w ∈ Cond.classLink own ik E :: Cond.initialized E :: vx_at0 own ic E nmX, vx_ot w = true)
    (d0 : decode cc pc = .ok (.new ik, 3)) (d3 : decode cc (pc + 3) = .ok (.dup, 1)) (d4 : decode cc (pc + 4) = .ok (.invokespecial ic, 3)) (d7 : decode cc (pc + 7) = .ok (.athrow, 1))
    (hfr : 5 < R.frames) (hlo : (st.map fun v => v.category).sum + 81 ≤ R.locals) (hro : k + 1 ≤ R.cells) (hrs : n + 6 ≤ R.slots) (hkm : k + 1 ≤ MC) (hsm : n + 6 ≤ MS) : V l D tc A p e R s m args below meth c nL (XQ D tc E S sz below args s MC MS) S k n pc ls st := by
  intro H locs lsa hP hD hS hl
  subst hA
  have hG := h.2.2.2.2.2.1
  refine vx_throw0 (names := nmX) (A := zAd S sz) h.1 h.2.1 h.2.2.2.2.2.2.2.2.2 h.2.2.2.2.1 hfit (by decide +kernel) (h.wg hk) (h.wg hi) (fun w hw => (hat w hw).elim (fun z => h.wg z) (fun z => h.wk z)) hg hG.2.2.1.1 hG.2.2.1.2 hS (hl.1.trans h.2.2.1.symm) d0 d3 d4 d7 (fun x hx => (hnx x hx).elim) hfr hlo hro hrs h.2.2.2.2.2.2.2.2.1 ?_ hS.2.2 hkm hsm
  intro t ht hz hq
  refine ⟨rfl, va_P.kept hP (fun k q hk => hq _ (vx_lt hP hk)), Nat.le_trans hS.1 hz, fun q h1 h2 => ?_⟩
  rw [hq q (Nat.lt_of_lt_of_le h1 hS.1)]
  exact hS.2.1 q h1 h2
end VXX
section VXN
variable {l : Launch} {D : va_G} {tc : Nat → ClassId} {A : Nat → Prop} {p : Program} {e : Env} {R : Room} {s : State} {m : MethodId} {args : Array Value} {below : List Frame} {meth : Method} {c : Code} {nL : Nat} {Q : State → Prop} {S : HS} {k n : Nat} {pc : Nat} {ls : List (Option Value)} {st : List Value} {cc : ByteArray} {own : String} {Ts : List Cond}
theorem V.tableN (h : CX l D tc A p s m args meth c cc nL own Ts) {dflt hi : Int} {offs : Array Int} {len : Nat} {x : Nat} {off : Int} {tgt : Nat} (hx : x < 100) (d : decode cc pc = .ok (.tableswitch dflt 0 hi offs, len)) (h2 : ¬ hi < (x : Int)) (ho : offs[x]? = some off) (ht : (pc : Int) + off = (tgt : Int)) (kk : V l D tc A p e R s m args below meth c nL Q S k n tgt ls st) : V l D tc A p e R s m args below meth c nL Q S k n pc ls (.int (nI x) :: st) := by
  have e1 : (nI x).toInt = (x : Int) := nI_toInt (by omega)
  exact V.tableIn h d (by rw [e1]; omega) (by rw [e1]; exact h2) (by rw [e1, show ((x : Int) - 0).toNat = x by omega]; exact ho) ht kk
end VXN
theorem noIx_wh {x : Int32} {m : Nat} (hm : m < 2 ^ 31 - 1) : x ≤ nI m ↔ ¬ nI (m + 1) ≤ x := by
  rw [Int32.le_iff_toInt_le, Int32.le_iff_toInt_le, nI_toInt (by omega), nI_toInt (by omega)]
  omega
set_option maxRecDepth 100000 in
set_option maxHeartbeats 4000000 in
theorem hat_IOB : ∀ w ∈ vx_at0 RX10 263 "java/lang/IndexOutOfBoundsException" nmX, w ∈ WG ∨ w ∈ WK := by decide +kernel
set_option maxRecDepth 100000 in
set_option maxHeartbeats 4000000 in
theorem hat_IAE : ∀ w ∈ vx_at0 RX10 266 "java/lang/IllegalArgumentException" nmX, w ∈ WG ∨ w ∈ WK := by decide +kernel
set_option maxRecDepth 100000 in
set_option maxHeartbeats 4000000 in
theorem hat_UOE : ∀ w ∈ vx_at0 RX10 172 "java/lang/UnsupportedOperationException" nmX, w ∈ WG ∨ w ∈ WK := by decide +kernel
theorem hgx_IOB : ∀ w ∈ Cond.classLink RX10 261 "java/lang/IndexOutOfBoundsException" :: Cond.initialized "java/lang/IndexOutOfBoundsException" :: vx_at0 RX10 263 "java/lang/IndexOutOfBoundsException" nmX, vx_ot w = true := by decide +kernel
theorem hgx_IAE : ∀ w ∈ Cond.classLink RX10 264 "java/lang/IllegalArgumentException" :: Cond.initialized "java/lang/IllegalArgumentException" :: vx_at0 RX10 266 "java/lang/IllegalArgumentException" nmX, vx_ot w = true := by decide +kernel
theorem hgx_UOE : ∀ w ∈ Cond.classLink RX10 170 "java/lang/UnsupportedOperationException" :: Cond.initialized "java/lang/UnsupportedOperationException" :: vx_at0 RX10 172 "java/lang/UnsupportedOperationException" nmX, vx_ot w = true := by decide +kernel
section
variable {l : Launch} {D : va_G} {tc : Nat → ClassId} {S : HS} {post : Option Value → HS → Prop}
theorem c_checkIndex (hls : l.stackTraces = false) {x : Int32} {n : Nat} (hx : noIx x n = false) (hp : post none S) : CM l D tc yX10_checkIndex cX10_checkIndex 2 none 0 0 0 [.int x, .int (nI n)] S post := by
  refine CM.of hls (by decide +kernel) (by simp [Value.category]) (Nat.le_of_ble_eq_true rfl) (fun A0 p e9 s m args below meth c sz h hr hnm hA => ?_)
  refine V.eqL (ls' := [some (.int x), some (.int (nI n))]) rfl ?_
  refine V.blk h [(.iload_n 0, 1)] (by decide +kernel) (pc' := 1) (ls' := [some (.int x), some (.int (nI n))]) (st' := [.int x]) rfl rfl (Nat.le_of_ble_eq_true rfl) ?_
  refine V.if_lt h (off := 8) (by decide +kernel) (tgt := 9) (by decide) (fun q => absurd (noIx_1 q) (by rw [hx]; decide)) (fun q => ?_)
  refine V.blk h [(.iload_n 0, 1), (.iload_n 1, 1)] (by decide +kernel) (pc' := 6) (ls' := [some (.int x), some (.int (nI n))]) (st' := [.int (nI n), .int x]) rfl rfl (Nat.le_of_ble_eq_true rfl) ?_
  refine V.icmp_lt h (off := 11) (by decide +kernel) (tgt := 17) (by decide) (fun q => ?_) (fun q => absurd (noIx_3 q) (by rw [hx]; decide))
  exact V.vret h hA hr hp (by decide +kernel) (Nat.zero_le _) (Nat.zero_le _)
theorem t_checkIndex (hls : l.stackTraces = false) {x : Int32} {n : Nat} (hx : noIx x n = true) : CT l D tc yX10_checkIndex cX10_checkIndex 2 none 6 1 6 [.int x, .int (nI n)] S "java/lang/IndexOutOfBoundsException" := by
  refine CT.of hls (by decide +kernel) (by simp [Value.category]) (Nat.le_of_ble_eq_true rfl) (fun A0 p e9 s m args below meth c sz h hnx hA => ?_)
  have key : V l D tc A0 p e9 (rmd 6 1 6) s m args below meth c 2 (XQ D tc "java/lang/IndexOutOfBoundsException" S sz below args s 1 6) S 0 0 9 [some (.int x), some (.int (nI n))] [] :=
    V.throw0 h hA hnx (by decide +kernel) wl_RX10_261 wn_java_lang_IndexOutOfBoundsException hat_IOB hgx_IOB (by decide +kernel) (by decide +kernel) (by decide +kernel) (by decide +kernel) (by decide) (by decide) (by decide) (by decide) (by decide) (by decide)
  refine V.eqL (ls' := [some (.int x), some (.int (nI n))]) rfl ?_
  refine V.blk h [(.iload_n 0, 1)] (by decide +kernel) (pc' := 1) (ls' := [some (.int x), some (.int (nI n))]) (st' := [.int x]) rfl rfl (Nat.le_of_ble_eq_true rfl) ?_
  refine V.if_lt h (off := 8) (by decide +kernel) (tgt := 9) (by decide) (fun q => key) (fun q => ?_)
  refine V.blk h [(.iload_n 0, 1), (.iload_n 1, 1)] (by decide +kernel) (pc' := 6) (ls' := [some (.int x), some (.int (nI n))]) (st' := [.int (nI n), .int x]) rfl rfl (Nat.le_of_ble_eq_true rfl) ?_
  exact V.icmp_lt h (off := 11) (by decide +kernel) (tgt := 17) (by decide) (fun r => absurd (noIx_2 q r) (by rw [hx]; decide)) (fun r => key)
theorem c_checkWhat (hls : l.stackTraces = false) {x : Int32} {n : Nat} (hm : n < 2 ^ 31 - 1) (hx : noIx x (n + 1) = false) (hp : post none S) : CM l D tc yX10_checkWhat cX10_checkWhat 2 none 0 0 0 [.int x, .int (nI n)] S post := by
  refine CM.of hls (by decide +kernel) (by simp [Value.category]) (Nat.le_of_ble_eq_true rfl) (fun A0 p e9 s m args below meth c sz h hr hnm hA => ?_)
  refine V.eqL (ls' := [some (.int x), some (.int (nI n))]) rfl ?_
  refine V.blk h [(.iload_n 0, 1)] (by decide +kernel) (pc' := 1) (ls' := [some (.int x), some (.int (nI n))]) (st' := [.int x]) rfl rfl (Nat.le_of_ble_eq_true rfl) ?_
  refine V.if_lt h (off := 8) (by decide +kernel) (tgt := 9) (by decide) (fun q => absurd (noIx_1 q) (by rw [hx]; decide)) (fun q => ?_)
  refine V.blk h [(.iload_n 0, 1), (.iload_n 1, 1)] (by decide +kernel) (pc' := 6) (ls' := [some (.int x), some (.int (nI n))]) (st' := [.int (nI n), .int x]) rfl rfl (Nat.le_of_ble_eq_true rfl) ?_
  refine V.icmp_le h (off := 11) (by decide +kernel) (tgt := 17) (by decide) (fun q => ?_) (fun q => absurd (noIx_3 (fun z => q ((noIx_wh hm).mpr (fun y => i32_le.mp y z)))) (by rw [hx]; decide))
  exact V.vret h hA hr hp (by decide +kernel) (Nat.zero_le _) (Nat.zero_le _)
theorem t_checkWhat (hls : l.stackTraces = false) {x : Int32} {n : Nat} (hm : n < 2 ^ 31 - 1) (hx : noIx x (n + 1) = true) : CT l D tc yX10_checkWhat cX10_checkWhat 2 none 6 1 6 [.int x, .int (nI n)] S "java/lang/IllegalArgumentException" := by
  refine CT.of hls (by decide +kernel) (by simp [Value.category]) (Nat.le_of_ble_eq_true rfl) (fun A0 p e9 s m args below meth c sz h hnx hA => ?_)
  have key : V l D tc A0 p e9 (rmd 6 1 6) s m args below meth c 2 (XQ D tc "java/lang/IllegalArgumentException" S sz below args s 1 6) S 0 0 9 [some (.int x), some (.int (nI n))] [] :=
    V.throw0 h hA hnx (by decide +kernel) wl_RX10_264 wn_java_lang_IllegalArgumentException hat_IAE hgx_IAE (by decide +kernel) (by decide +kernel) (by decide +kernel) (by decide +kernel) (by decide) (by decide) (by decide) (by decide) (by decide) (by decide)
  refine V.eqL (ls' := [some (.int x), some (.int (nI n))]) rfl ?_
  refine V.blk h [(.iload_n 0, 1)] (by decide +kernel) (pc' := 1) (ls' := [some (.int x), some (.int (nI n))]) (st' := [.int x]) rfl rfl (Nat.le_of_ble_eq_true rfl) ?_
  refine V.if_lt h (off := 8) (by decide +kernel) (tgt := 9) (by decide) (fun q => key) (fun q => ?_)
  refine V.blk h [(.iload_n 0, 1), (.iload_n 1, 1)] (by decide +kernel) (pc' := 6) (ls' := [some (.int x), some (.int (nI n))]) (st' := [.int (nI n), .int x]) rfl rfl (Nat.le_of_ble_eq_true rfl) ?_
  refine V.icmp_le h (off := 11) (by decide +kernel) (tgt := 17) (by decide) (fun r => ?_) (fun r => key)
  exact absurd (noIx_2 q (i32_lt ((noIx_wh hm).mp r))) (by rw [hx]; decide)
end
