/-! ===== a part of the heap; the heap put together again ===== -/
def zSub (S : HS) (L : List Nat) : HS := (L, zK S, zI S, zP S, zN S, zA S, zR S, zJ S)
def jn (L : List Nat) (S T : HS) : HS := (L ++ zL T, (fun a => if a ∈ L then zK S a else zK T a), (fun g a => if a ∈ L then zI S g a else zI T g a), (fun g a => if a ∈ L then zP S g a else zP T g a), (fun a => if a ∈ L then zN S a else zN T a), (fun a => if a ∈ L then zA S a else zA T a), (fun a => if a ∈ L then zR S a else zR T a), (fun a => if a ∈ L then zJ S a else zJ T a))
theorem wC_ext (tc : Nat → ClassId) {S T : HS} {a : Nat} (h1 : zK S a = zK T a) (h2 : ∀ g, zI S g a = zI T g a) (h3 : ∀ g, zP S g a = zP T g a) (h4 : zN S a = zN T a) (h5 : zA S a = zA T a) (h6 : zR S a = zR T a) (h7 : zJ S a = zJ T a) : wC tc S a = wC tc T a := by
  unfold wC
  rw [h1, h4, h5, h6, h7]
  have e : fvs S (zK T a) a 0 (fty (zK T a)) = fvs T (zK T a) a 0 (fty (zK T a)) := fvs_ext _ _ (fun i c _ => by
    unfold fval
    rw [h2, h3])
  rw [e]
theorem jn_in (tc : Nat → ClassId) {L : List Nat} {S T : HS} {a : Nat} (h : a ∈ L) : wC tc (jn L S T) a = wC tc S a := wC_ext tc (if_pos h) (fun _ => if_pos h) (fun _ => if_pos h) (if_pos h) (if_pos h) (if_pos h) (if_pos h)
theorem jn_out (tc : Nat → ClassId) {L : List Nat} {S T : HS} {a : Nat} (h : a ∉ L) : wC tc (jn L S T) a = wC tc T a := wC_ext tc (if_neg h) (fun _ => if_neg h) (fun _ => if_neg h) (if_neg h) (if_neg h) (if_neg h) (if_neg h)
theorem zP1_iff {D : va_G} {tc : Nat → ClassId} {S : HS} {H : Heap} : zP1 D tc S H ↔ ∀ a, a ∈ zL S → va_at D vwCl (a, wC tc S a) H := by
  refine ⟨fun h a ha => ?_, fun h k q hq => ?_⟩
  · obtain ⟨k, hk⟩ := zW_at tc ha
    exact h k _ hk
  · have := List.mem_of_getElem? hq
    obtain ⟨a, ha, rfl⟩ := List.mem_map.mp this
    exact h a ha
theorem zP1.part {D : va_G} {tc : Nat → ClassId} {S : HS} {H : Heap} {L : List Nat} (h : zP1 D tc S H) (hL : ∀ a, a ∈ L → a ∈ zL S) : zP1 D tc (zSub S L) H := zP1_iff.mpr (fun a ha => by
  have e : wC tc (zSub S L) a = wC tc S a := wC_ext tc rfl (fun _ => rfl) (fun _ => rfl) rfl rfl rfl rfl
  rw [e]
  exact zP1_iff.mp h a (hL a ha))
theorem zP1.join {D : va_G} {tc : Nat → ClassId} {S T : HS} {H H1 : Heap} {L L1 : List Nat} (h : zP1 D tc S H) (hL : ∀ a, a ∈ L → a ∈ zL S) (hd : ∀ a, a ∈ L → a ∉ L1) (hk : ∀ q, q < H.size → ¬ zAd (zSub S L1) H.size q → H1[q]? = H[q]?) (h1 : zP1 D tc T H1) : zP1 D tc (jn L S T) H1 := by
  refine zP1_iff.mpr (fun a ha => ?_)
  by_cases q : a ∈ L
  · have h2 := zP1_iff.mp h a (hL a q)
    have hlt : a < H.size := va_at.lt h2
    rw [jn_in tc q]
    exact va_at.kept h2 (hk a hlt (fun z => z.elim (fun z => hd a q z) (fun z => by omega)))
  · rw [jn_out tc q]
    rcases List.mem_append.mp ha with z | z
    · exact absurd z q
    · exact zP1_iff.mp h1 a z
theorem zD1_iff {tc : Nat → ClassId} {A : Nat → Prop} {S : HS} : zD1 tc A S ↔ (∀ (i j : Nat) (a : Nat), (zL S)[i]? = some a → (zL S)[j]? = some a → i = j) ∧ ∀ a, a ∈ zL S → A a := by
  have g : ∀ i, (zW tc S)[i]? = ((zL S)[i]?).map (fun a => (a, wC tc S a)) := fun i => List.getElem?_map
  refine ⟨fun h => ⟨fun i j a hi hj => h.1 i j (a, wC tc S a) (a, wC tc S a) (by rw [g, hi]; rfl) (by rw [g, hj]; rfl) rfl, fun a ha => zD1.mem h ha⟩, fun h => ⟨fun i j x y hi hj e => ?_, fun k x hx => ?_⟩⟩
  · rw [g] at hi hj
    cases hi' : (zL S)[i]? with
    | none => rw [hi'] at hi; cases hi
    | some a =>
      cases hj' : (zL S)[j]? with
      | none => rw [hj'] at hj; cases hj
      | some b =>
        rw [hi'] at hi; rw [hj'] at hj
        have e1 : (a, wC tc S a) = x := Option.some.inj hi
        have e2 : (b, wC tc S b) = y := Option.some.inj hj
        subst e1; subst e2
        have e3 : a = b := e
        subst e3
        exact h.1 i j a hi' hj'
  · rw [g] at hx
    cases hx' : (zL S)[k]? with
    | none => rw [hx'] at hx; cases hx
    | some a =>
      rw [hx'] at hx
      have e1 : (a, wC tc S a) = x := Option.some.inj hx
      subst e1
      exact h.2 a (List.mem_of_getElem? hx')
theorem zD1.part {tc : Nat → ClassId} {A B : Nat → Prop} {S : HS} {L : List Nat} (h : zD1 tc A S) (hn : ∀ (i j : Nat) (a : Nat), L[i]? = some a → L[j]? = some a → i = j) (hB : ∀ a, a ∈ L → B a) : zD1 tc B (zSub S L) := zD1_iff.mpr ⟨hn, hB⟩
theorem zD1.join {D : va_G} {tc : Nat → ClassId} {A : Nat → Prop} {S T : HS} {H : Heap} {L L1 : List Nat} (hP : zP1 D tc S H) (h : zD1 tc A S) (hL : ∀ a, a ∈ L → a ∈ zL S) (hn : ∀ (i j : Nat) (a : Nat), L[i]? = some a → L[j]? = some a → i = j) (hd : ∀ a, a ∈ L → a ∉ L1) (hA : ∀ q, zAd (zSub S L1) H.size q → A q) (h1 : zD1 tc (zAd (zSub S L1) H.size) T) : zD1 tc A (jn L S T) := by
  have k := zD1_iff.mp h1
  have apart : ∀ a, a ∈ L → a ∉ zL T := fun a ha hb => (k.2 a hb).elim (fun z => hd a ha z) (fun z => by
    have : a < H.size := va_at.lt (zP1_iff.mp hP a (hL a ha))
    omega)
  refine zD1_iff.mpr ⟨fun i j a hi hj => ?_, fun a ha => ?_⟩
  · have hi' : (L ++ zL T)[i]? = some a := hi
    have hj' : (L ++ zL T)[j]? = some a := hj
    rcases Nat.lt_or_ge i L.length with x | x <;> rcases Nat.lt_or_ge j L.length with y | y
    · rw [List.getElem?_append_left x] at hi'
      rw [List.getElem?_append_left y] at hj'
      exact hn i j a hi' hj'
    · rw [List.getElem?_append_left x] at hi'
      rw [List.getElem?_append_right y] at hj'
      exact absurd (List.mem_of_getElem? hj') (apart a (List.mem_of_getElem? hi'))
    · rw [List.getElem?_append_right x] at hi'
      rw [List.getElem?_append_left y] at hj'
      exact absurd (List.mem_of_getElem? hi') (apart a (List.mem_of_getElem? hj'))
    · rw [List.getElem?_append_right x] at hi'
      rw [List.getElem?_append_right y] at hj'
      have := k.1 _ _ a hi' hj'
      omega
  · rcases List.mem_append.mp ha with z | z
    · exact zD1.mem h (hL a z)
    · exact hA a (k.2 a z)
/-- a part L1 and the rest L -/
def PT (S : HS) (L L1 : List Nat) : Prop := (∀ a, a ∈ L → a ∈ zL S) ∧ (∀ a, a ∈ L1 → a ∈ zL S) ∧ (∀ (i j : Nat) (a : Nat), L[i]? = some a → L[j]? = some a → i = j) ∧ (∀ (i j : Nat) (a : Nat), L1[i]? = some a → L1[j]? = some a → i = j) ∧ ∀ a, a ∈ L → a ∉ L1
section
variable {l : Launch} {D : va_G} {tc : Nat → ClassId} {A : Nat → Prop} {p : Program} {e : Env} {R : Room} {s : State} {m : MethodId} {args : Array Value} {below : List Frame} {meth : Method} {c : Code} {nL : Nat} {Q : State → Prop} {S : HS} {k n : Nat} {pc : Nat} {ls : List (Option Value)} {st : List Value} {cc : ByteArray} {own : String} {Ts : List Cond}
theorem V.call0F {post : Option Value → HS → Prop} {mc ms : Nat} {st0 : List Value} {a9 : Array Value} {L L1 : List Nat} (h : CX l D tc A p s m args meth c cc nL own Ts) (hF : PT S L L1)
    (hr : ∀ (H : Heap) (locs : List Loc) (lsa : Array Slot), zP1 D tc (zSub S L1) H → zD1 tc A (zSub S L1) → va_S A s.heap H locs → zH lsa nL ls → va_Run p l e R s m args below meth c H locs k n mc ms (F0 m pc lsa st0) st (zQ D tc post (zSub S L1) H.size a9) (zAd (zSub S L1) H.size))
    (kk : ∀ (v : Option Value) (S' : HS), post v S' → V l D tc A p e R s m args below meth c nL Q (jn L S S') (k + mc) (n + ms) (pc + 3) ls (v.toList ++ st)) : V l D tc A p e R s m args below meth c nL Q S k n pc ls st0 := by
  intro H locs lsa hP hD hS hl
  obtain ⟨f1, f2, f3, f4, f5⟩ := hF
  have hA := h.2.2.2.2.2.2.1
  have hPs : zP1 D tc (zSub S L1) H := hP.part f2
  have hDs : zD1 tc A (zSub S L1) := zD1.part (tc := tc) (A := A) hD f4 (fun a ha => zD1.mem hD (f2 a ha))
  have hsub := zAd_sub hDs hA hS
  intro X0 hX0 X
  obtain ⟨v, st₀, t, T', L9, h0, X', hL, e1, e2, ⟨v2, S', hv, hp, hP1, hD1, hz, hk⟩, st⟩ := hr H locs lsa hPs hDs hS hl X0 hX0 X
  cases hv
  rw [h0] at hz hk
  obtain ⟨t2, a1, b1⟩ := kk v S' hp T'.heap (locs ++ L9) lsa (by rw [e1]; exact zP1.join hP f1 f5 hk hP1) (zD1.join hP hD f1 f3 f5 hsub hD1)
    ⟨Nat.le_trans hS.1 (by rw [e1]; exact hz), fun q h1 h2 => by rw [e1, hk q (Nat.lt_of_lt_of_le h1 hS.1) (fun z => h2 (hsub q z))]; exact hS.2.1 q h1 h2, fun q hq => by
      rcases List.mem_append.mp hq with h | h
      · exact hS.2.2 q h
      · exact hsub _ (hL q h)⟩ hl T' rfl X'
  exact ⟨t2, st t2 a1, b1⟩
theorem V.callVF {L L1 : List Nat} {y : MethodName} {cy : ByteArray} {my : Nat} {ry : Option FieldType} {d mc ms np idx ci N b : Nat} {C : String} {T : u_T} {ty : Nat → FieldType} {As : List Value} {post : Option Value → HS → Prop} (h : CX l D tc A p s m args meth c cc nL own Ts) (hF : PT S L L1) (hM : CM l D tc y cy my ry d mc ms (.ref b :: As) (zSub S L1) post)
    (hc : Cond.code y cy my ry ∈ WG) (hi : Cond.initialized y.cls ∈ WG) (hlk : ML own idx y) (hin : Cond.instanceMethod y ∈ WG) (hse : Cond.selects C y y ∈ WG) (hy : yok y np = true) (hnp : As.length = np) (q : CLS ci C T N ty) (hb : b ∈ L1) (hbk : zK S b = ci)
    (hfr : d + 1 ≤ R.frames) (hlo : 8 + (my + 11) + 36 * d ≤ R.locals) (hro : k + mc ≤ R.cells) (hrs : n + ms ≤ R.slots) (hst : (st.map fun v => v.category).sum ≤ 8) (hd : decode cc pc = .ok (.invokevirtual idx, 3)) {st0 : List Value} (hst0 : st0 = As.reverse ++ .ref b :: st)
    (kk : ∀ (v : Option Value) (S' : HS), post v S' → V l D tc A p e R s m args below meth c nL Q (jn L S S') (k + mc) (n + ms) (pc + 3) ls (v.toList ++ st)) : V l D tc A p e R s m args below meth c nL Q S k n pc ls st0 := by
  refine V.call0F (a9 := (Value.ref b :: As).toArray) h hF (fun H locs lsa hP hD hS hl => ?_) kk
  have hts := h.2.2.2.1
  have hWG := h.2.2.2.2.2.2.2.1
  have hy2 := yok_of hy
  obtain ⟨i, hi9, -⟩ := zW_obj (tc := tc) (A := A) (S := zSub S L1) q hb hbk
  have hpre : PreV s H C b (zPc D tc (.ref b :: As) (zSub S L1) H.size) As := ⟨zPc_blind, va_recv h.2.2.2.2.2.1.1 hP q.1 hi9, fun U hU hW => zPc_of h hP hD hS U hU hW⟩
  have hnum : ∀ sig, parseMethodDescriptor y.desc = some sig → np = sig.parameters.length := fun sig hs => by
    have h2 := hy2.2.2
    rw [hs] at h2
    exact (Option.some.inj h2).symm
  rcases hlk with hlk | ⟨host, hlk⟩
  · exact va_runV (n := np) ⟨h.1, h.2.1, h.2.2.1, h.2.2.2.2.1, hts⟩ (hM H.size) ⟨⟨rfl, rfl, hfr, hlo, pay_in hts (zGood h hc), List.mem_cons_self, hts _ (hWG _ hc), hts _ (hWG _ hi), ⟨hy2.1, hy2.2.1⟩, hnum, hts _ (hWG _ hlk)⟩, hts _ (hWG _ hin), hts _ (hWG _ hse)⟩ hpre rfl hnp hl.1 hst0 (lv_room hst) hd ⟨hro, hrs⟩
  · exact va_runVN (n := np) ⟨h.1, h.2.1, h.2.2.1, h.2.2.2.2.1, hts⟩ (hM H.size) ⟨⟨⟨rfl, rfl, hfr, hlo, pay_in hts (zGood h hc), List.mem_cons_self⟩, hts _ (hWG _ hc), hts _ (hWG _ hi), ⟨hy2.1, hy2.2.1⟩, hnum, va_Nw.use rfl (h.2.2.2.2.2.1.2.1 _ hlk)⟩, hts _ (hWG _ hin), hts _ (hWG _ hse)⟩ hpre rfl hnp hl.1 hst0 (lv_room hst) hd ⟨hro, hrs⟩
theorem V.callSF {L L1 : List Nat} {y : MethodName} {cy : ByteArray} {my : Nat} {ry : Option FieldType} {d mc ms np idx : Nat} {As : List Value} {post : Option Value → HS → Prop} (h : CX l D tc A p s m args meth c cc nL own Ts) (hF : PT S L L1) (hM : CM l D tc y cy my ry d mc ms As (zSub S L1) post)
    (hc : Cond.code y cy my ry ∈ WG) (hi : Cond.initialized y.cls ∈ WG) (hlk : ML own idx y) (hin : Cond.static y ∈ WG) (hy : yok y np = true) (hnp : As.length = np)
    (hfr : d + 1 ≤ R.frames) (hlo : 8 + (my + 11) + 36 * d ≤ R.locals) (hro : k + mc ≤ R.cells) (hrs : n + ms ≤ R.slots) (hst : (st.map fun v => v.category).sum ≤ 8) (hd : decode cc pc = .ok (.invokestatic idx, 3)) {st0 : List Value} (hst0 : st0 = As.reverse ++ st)
    (kk : ∀ (v : Option Value) (S' : HS), post v S' → V l D tc A p e R s m args below meth c nL Q (jn L S S') (k + mc) (n + ms) (pc + 3) ls (v.toList ++ st)) : V l D tc A p e R s m args below meth c nL Q S k n pc ls st0 := by
  refine V.call0F (a9 := As.toArray) h hF (fun H locs lsa hP hD hS hl => ?_) kk
  have hts := h.2.2.2.1
  have hWG := h.2.2.2.2.2.2.2.1
  have hy2 := yok_of hy
  have hpre : PreS s H (zPc D tc As (zSub S L1) H.size) As := ⟨zPc_blind, fun U hU hW => zPc_of h hP hD hS U hU hW⟩
  have hnum : ∀ sig, parseMethodDescriptor y.desc = some sig → np = sig.parameters.length := fun sig hs => by
    have h2 := hy2.2.2
    rw [hs] at h2
    exact (Option.some.inj h2).symm
  rcases hlk with hlk | ⟨host, hlk⟩
  · exact va_runS (n := np) ⟨h.1, h.2.1, h.2.2.1, h.2.2.2.2.1, hts⟩ (hM H.size) ⟨⟨rfl, rfl, hfr, hlo, pay_in hts (zGood h hc), List.mem_cons_self, hts _ (hWG _ hc), hts _ (hWG _ hi), ⟨hy2.1, hy2.2.1⟩, hnum, hts _ (hWG _ hlk)⟩, hts _ (hWG _ hin)⟩ hpre rfl hnp hl.1 hst0 (lv_room hst) hd ⟨hro, hrs⟩
  · exact va_runSN (n := np) ⟨h.1, h.2.1, h.2.2.1, h.2.2.2.2.1, hts⟩ (hM H.size) ⟨⟨⟨rfl, rfl, hfr, hlo, pay_in hts (zGood h hc), List.mem_cons_self⟩, hts _ (hWG _ hc), hts _ (hWG _ hi), ⟨hy2.1, hy2.2.1⟩, hnum, va_Nw.use rfl (h.2.2.2.2.2.1.2.1 _ hlk)⟩, hts _ (hWG _ hin), trivial⟩ hpre rfl hnp hl.1 hst0 (lv_room hst) hd ⟨hro, hrs⟩
theorem V.callIF {L L1 : List Nat} {y : MethodName} {cy : ByteArray} {my : Nat} {d mc ms np idx b : Nat} {As : List Value} {post : Option Value → HS → Prop} (h : CX l D tc A p s m args meth c cc nL own Ts) (hF : PT S L L1) (hM : CM l D tc y cy my none d mc ms (.ref b :: As) (zSub S L1) post)
    (hc : Cond.code y cy my none ∈ WG) (hi : Cond.initialized y.cls ∈ WG) (hlk : ML own idx y) (hin : Cond.instanceMethod y ∈ WG) (hnm : y.name = "<init>") (hy : yok y np = true) (hnp : As.length = np)
    (hfr : d + 1 ≤ R.frames) (hlo : 8 + (my + 11) + 36 * d ≤ R.locals) (hro : k + mc ≤ R.cells) (hrs : n + ms ≤ R.slots) (hst : (st.map fun v => v.category).sum ≤ 8) (hd : decode cc pc = .ok (.invokespecial idx, 3)) {st0 : List Value} (hst0 : st0 = As.reverse ++ .ref b :: st)
    (kk : ∀ (v : Option Value) (S' : HS), post v S' → V l D tc A p e R s m args below meth c nL Q (jn L S S') (k + mc) (n + ms) (pc + 3) ls (v.toList ++ st)) : V l D tc A p e R s m args below meth c nL Q S k n pc ls st0 := by
  refine V.call0F (a9 := (Value.ref b :: As).toArray) h hF (fun H locs lsa hP hD hS hl => ?_) kk
  have hts := h.2.2.2.1
  have hWG := h.2.2.2.2.2.2.2.1
  have hy2 := yok_of hy
  have hpre : PreS s H (zPc D tc (.ref b :: As) (zSub S L1) H.size) (.ref b :: As) := ⟨zPc_blind, fun U hU hW => zPc_of h hP hD hS U hU hW⟩
  have hnum : ∀ sig, parseMethodDescriptor y.desc = some sig → np = sig.parameters.length := fun sig hs => by
    have h2 := hy2.2.2
    rw [hs] at h2
    exact (Option.some.inj h2).symm
  rcases hlk with hlk | ⟨host, hlk⟩
  · exact va_runI (n := np) ⟨h.1, h.2.1, h.2.2.1, h.2.2.2.2.1, hts⟩ (hM H.size) ⟨⟨rfl, rfl, hfr, hlo, pay_in hts (zGood h hc), List.mem_cons_self, hts _ (hWG _ hc), hts _ (hWG _ hi), ⟨hy2.1, hy2.2.1⟩, hnum, hts _ (hWG _ hlk)⟩, hnm, hts _ (hWG _ hin)⟩ hpre rfl hnp hl.1 hst0 (lv_room hst) hd ⟨hro, hrs⟩
  · exact va_runIN (n := np) ⟨h.1, h.2.1, h.2.2.1, h.2.2.2.2.1, hts⟩ (hM H.size) ⟨⟨⟨rfl, rfl, hfr, hlo, pay_in hts (zGood h hc), List.mem_cons_self⟩, hts _ (hWG _ hc), hts _ (hWG _ hi), ⟨hy2.1, hy2.2.1⟩, hnum, va_Nw.use rfl (h.2.2.2.2.2.1.2.1 _ hlk)⟩, hnm, hts _ (hWG _ hin)⟩ hpre rfl hnp hl.1 hst0 (lv_room hst) hd ⟨hro, hrs⟩
end
