/-! ===== the rows of V: fields, arrays, branches ===== -/
theorem CLS.lt {ci : Nat} {C : String} {T : u_T} {N : Nat} {ty : Nat → FieldType} (q : CLS ci C T N ty) : ci < 20 := q.2.2.2.2.1
theorem CLS.jlt {ci j : Nat} {C : String} {T : u_T} {N : Nat} {ty : Nat → FieldType} {b : Bool} (q : CLS ci C T N ty) (h : (fty ci)[j]? = some b) : j < N := by
  have := (List.getElem?_eq_some_iff.mp h).1
  rw [q.2.2.2.2.2.1] at this
  exact this
def FL (own : String) (idx : Nat) (ref name desc : String) : Prop := Cond.fieldLink own idx ref name desc ∈ WG ∨ ∃ host, Cond.fieldLinkNest own idx ref name desc host ∈ WN
def bI (b : Bool) : Int32 := if b = true then 1 else 0
theorem bI_nar (b : Bool) : narrow .boolean (.int (bI b)) = .int (bI b) := by cases b <;> rfl
theorem bI_fit (b : Bool) : fits .boolean (.int (bI b)) = true := by cases b <;> rfl
theorem bI_vp (b : Bool) : vp_nar .boolean (bI b) = bI b := by cases b <;> rfl
section VM
variable {l : Launch} {D : va_G} {tc : Nat → ClassId} {A : Nat → Prop} {p : Program} {e : Env} {R : Room} {s : State} {m : MethodId} {args : Array Value} {below : List Frame} {meth : Method} {c : Code} {nL : Nat} {Q : State → Prop} {S : HS} {k n : Nat} {pc : Nat} {ls : List (Option Value)} {st : List Value} {cc : ByteArray} {own : String} {Ts : List Cond}
variable {ci j idx N a : Nat} {C : String} {T : u_T} {ty : Nat → FieldType}
theorem zW_obj {A : Nat → Prop} (q : CLS ci C T N ty) (ha : a ∈ zL S) (hk : zK S a = ci) : ∃ i : Nat, (zW tc S)[i]? = some (a, .inr (ci, fvs S ci a 0 (fty ci))) ∧ (zW tc S)[i]? = some (a, wC tc S a) := by
  obtain ⟨i, hi⟩ := zW_at tc ha
  exact ⟨i, by rw [hi, wC_obj ci hk q.lt], hi⟩
theorem V.get0 (h : CX l D tc A p s m args meth c cc nL own Ts) (q : CLS ci C T N ty) {b : Bool} (hj : (fty ci)[j]? = some b) (ha : a ∈ zL S) (hk : zK S a = ci) {ref : String} (lk : FL own idx ref (T j).2.1 (T j).2.2.1) (hsame : ∀ x, s.fieldFound? (T j).1 (T j).2.1 (T j).2.2.1 = some x → s.fieldFound? ref (T j).2.1 (T j).2.2.1 = some x) (d : decode cc pc = .ok (.getfield idx, 3))
    (kk : V l D tc A p e R s m args below meth c nL Q S k n (pc + 3) ls (fval b S (64 * ci + j) a :: st)) : V l D tc A p e R s m args below meth c nL Q S k n pc ls (.ref a :: st) := by
  intro H locs lsa hP hD hS hl
  obtain ⟨hx, hb, hml, hts, hown, hG, hA, hWG, -, -⟩ := h
  obtain ⟨i, hi, -⟩ := zW_obj (tc := tc) (A := A) q ha hk
  have hv : (fvs S ci a 0 (fty ci))[j]? = some (fval b S (64 * ci + j) a) := by
    have := fvs_get S ci a (fty ci) 0 j b hj
    rwa [Nat.zero_add] at this
  have hw : ∀ w ∈ u_ws C T N, w ∈ Ts := fun w hw => hWG _ (q.2.1 w hw)
  rcases lk with lk | ⟨host, lk⟩
  · exact va_get hx hb hts hw hown hG.1 hP i hi q.1 j (q.jlt hj) (hts _ (hWG _ lk)) hsame hv d (kk H locs lsa hP hD hS hl)
  · exact va_getN hx hb hts hw hown hG.1 hP i hi q.1 j (q.jlt hj) (va_Nw.use rfl (hG.2.1 _ lk)) hsame hv d (kk H locs lsa hP hD hS hl)
theorem V.getI (h : CX l D tc A p s m args meth c cc nL own Ts) (q : CLS ci C T N ty) (hj : (fty ci)[j]? = some true) (ha : a ∈ zL S) (hk : zK S a = ci) (lk : FL own idx (T j).1 (T j).2.1 (T j).2.2.1) (d : decode cc pc = .ok (.getfield idx, 3)) {v : Int32} (hv : zI S (64 * ci + j) a = v)
    (kk : V l D tc A p e R s m args below meth c nL Q S k n (pc + 3) ls (.int v :: st)) : V l D tc A p e R s m args below meth c nL Q S k n pc ls (.ref a :: st) := by
  subst hv
  exact V.get0 h q hj ha hk lk (fun _ h => h) d kk
theorem V.getP (h : CX l D tc A p s m args meth c cc nL own Ts) (q : CLS ci C T N ty) (hj : (fty ci)[j]? = some false) (ha : a ∈ zL S) (hk : zK S a = ci) (lk : FL own idx (T j).1 (T j).2.1 (T j).2.2.1) (d : decode cc pc = .ok (.getfield idx, 3)) {v : Option Nat} (hv : zP S (64 * ci + j) a = v)
    (kk : V l D tc A p e R s m args below meth c nL Q S k n (pc + 3) ls (va_rf v :: st)) : V l D tc A p e R s m args below meth c nL Q S k n pc ls (.ref a :: st) := by
  subst hv
  exact V.get0 h q hj ha hk lk (fun _ h => h) d kk
theorem zP1_of {H1 : Heap} {w : va_W} {S' : HS} (e : w = zW tc S') (h : va_P D vwCl w H1) : zP1 D tc S' H1 := by rw [e] at h; exact h
theorem zD1_of {A : Nat → Prop} {w : va_W} {S' : HS} (e : w = zW tc S') (h : va_D A w) : zD1 tc A S' := by rw [e] at h; exact h
theorem V.putI0 (h : CX l D tc A p s m args meth c cc nL own Ts) (q : CLS ci C T N ty) (hj : (fty ci)[j]? = some true) (ha : a ∈ zL S) (hk : zK S a = ci) {ref : String} (lk : FL own idx ref (T j).2.1 (T j).2.2.1) (hsame : ∀ x, s.fieldFound? (T j).1 (T j).2.1 (T j).2.2.1 = some x → s.fieldFound? ref (T j).2.1 (T j).2.2.1 = some x) (hfin : (T j).2.2.2 = false) {v : Int32} (hn : narrow (ty j) (.int v) = .int v) (hf : fits (ty j) (.int v) = true) (d : decode cc pc = .ok (.putfield idx, 3))
    (kk : V l D tc A p e R s m args below meth c nL Q (setI S (64 * ci + j) a v) k n (pc + 3) ls st) : V l D tc A p e R s m args below meth c nL Q S k n pc ls (.int v :: .ref a :: st) := by
  intro H locs lsa hP hD hS hl
  obtain ⟨hx, hb, hml, hts, hown, hG, hA, hWG, -, -⟩ := h
  obtain ⟨i, hi, hi2⟩ := zW_obj (tc := tc) (A := A) q ha hk
  have hw : ∀ w ∈ u_ws C T N, w ∈ Ts := fun w hw => hWG _ (q.2.1 w hw)
  have e1 : (zW tc S).set i (a, .inr (ci, (fvs S ci a 0 (fty ci)).set j (.int v))) = zW tc (setI S (64 * ci + j) a v) := zW_up hD ha hi2 rfl (wC_setI tc S v hk q.lt hj)
  have hlen : j < (fvs S ci a 0 (fty ci)).length := by rw [fvs_len]; exact (List.getElem?_eq_some_iff.mp hj).1
  rcases lk with lk | ⟨host, lk⟩
  · exact va_put hx hb hts hw ty q.2.2.1 q.2.2.2.1 hown hG.1 hP hD hS i hi q.1 j (q.jlt hj) (hts _ (hWG _ lk)) hsame hfin (q.2.2.1 j (q.jlt hj)) hn hf hlen d (fun H1 locs1 hP1 hD1 hS1 => kk H1 locs1 lsa (zP1_of e1 hP1) (zD1_of e1 hD1) hS1 hl)
  · exact va_putN hx hb hts hw ty q.2.2.1 q.2.2.2.1 hown hG.1 hP hD hS i hi q.1 j (q.jlt hj) (va_Nw.use rfl (hG.2.1 _ lk)) hsame hfin (q.2.2.1 j (q.jlt hj)) hn hf hlen d (fun H1 locs1 hP1 hD1 hS1 => kk H1 locs1 lsa (zP1_of e1 hP1) (zD1_of e1 hD1) hS1 hl)
theorem V.putI (h : CX l D tc A p s m args meth c cc nL own Ts) (q : CLS ci C T N ty) (hj : (fty ci)[j]? = some true) (ha : a ∈ zL S) (hk : zK S a = ci) (lk : FL own idx (T j).1 (T j).2.1 (T j).2.2.1) (hfin : (T j).2.2.2 = false) {v : Int32} (hn : narrow (ty j) (.int v) = .int v) (hf : fits (ty j) (.int v) = true) (d : decode cc pc = .ok (.putfield idx, 3))
    (kk : V l D tc A p e R s m args below meth c nL Q (setI S (64 * ci + j) a v) k n (pc + 3) ls st) : V l D tc A p e R s m args below meth c nL Q S k n pc ls (.int v :: .ref a :: st) :=
  V.putI0 h q hj ha hk lk (fun _ h => h) hfin hn hf d kk
theorem V.putP (h : CX l D tc A p s m args meth c cc nL own Ts) (q : CLS ci C T N ty) (hj : (fty ci)[j]? = some false) (ha : a ∈ zL S) (hk : zK S a = ci) (lk : FL own idx (T j).1 (T j).2.1 (T j).2.2.1) (hfin : (T j).2.2.2 = false) {v : Option Nat} (hn : narrow (ty j) (va_rf v) = va_rf v) (hf : fits (ty j) (va_rf v) = true) (d : decode cc pc = .ok (.putfield idx, 3))
    (kk : V l D tc A p e R s m args below meth c nL Q (setP S (64 * ci + j) a v) k n (pc + 3) ls st) : V l D tc A p e R s m args below meth c nL Q S k n pc ls (va_rf v :: .ref a :: st) := by
  intro H locs lsa hP hD hS hl
  obtain ⟨hx, hb, hml, hts, hown, hG, hA, hWG, -, -⟩ := h
  obtain ⟨i, hi, hi2⟩ := zW_obj (tc := tc) (A := A) q ha hk
  have hw : ∀ w ∈ u_ws C T N, w ∈ Ts := fun w hw => hWG _ (q.2.1 w hw)
  have e1 : (zW tc S).set i (a, .inr (ci, (fvs S ci a 0 (fty ci)).set j (va_rf v))) = zW tc (setP S (64 * ci + j) a v) := zW_up hD ha hi2 rfl (wC_setP tc S v hk q.lt hj)
  have hlen : j < (fvs S ci a 0 (fty ci)).length := by rw [fvs_len]; exact (List.getElem?_eq_some_iff.mp hj).1
  rcases lk with lk | ⟨host, lk⟩
  · exact va_put hx hb hts hw ty q.2.2.1 q.2.2.2.1 hown hG.1 hP hD hS i hi q.1 j (q.jlt hj) (hts _ (hWG _ lk)) (fun _ h => h) hfin (q.2.2.1 j (q.jlt hj)) hn hf hlen d (fun H1 locs1 hP1 hD1 hS1 => kk H1 locs1 lsa (zP1_of e1 hP1) (zD1_of e1 hD1) hS1 hl)
  · exact va_putN hx hb hts hw ty q.2.2.1 q.2.2.2.1 hown hG.1 hP hD hS i hi q.1 j (q.jlt hj) (va_Nw.use rfl (hG.2.1 _ lk)) (fun _ h => h) hfin (q.2.2.1 j (q.jlt hj)) hn hf hlen d (fun H1 locs1 hP1 hD1 hS1 => kk H1 locs1 lsa (zP1_of e1 hP1) (zD1_of e1 hD1) hS1 hl)
/-- a final field, in its class's constructor -/
theorem V.putIF (h : CX l D tc A p s m args meth c cc nL own Ts) (hin : meth.name = "<init>") (q : CLS ci C T N ty) (hj : (fty ci)[j]? = some true) (ha : a ∈ zL S) (hk : zK S a = ci) (lk : Cond.fieldLink own idx (T j).1 (T j).2.1 (T j).2.2.1 ∈ WG) (hfin : (T j).2.2.2 = true) (hdecl : (T j).1 = own) {v : Int32} (hn : narrow (ty j) (.int v) = .int v) (hf : fits (ty j) (.int v) = true) (d : decode cc pc = .ok (.putfield idx, 3))
    (kk : V l D tc A p e R s m args below meth c nL Q (setI S (64 * ci + j) a v) k n (pc + 3) ls st) : V l D tc A p e R s m args below meth c nL Q S k n pc ls (.int v :: .ref a :: st) := by
  intro H locs lsa hP hD hS hl
  obtain ⟨hx, hb, hml, hts, hown, hG, hA, hWG, -, -⟩ := h
  obtain ⟨i, hi, hi2⟩ := zW_obj (tc := tc) (A := A) q ha hk
  have hw : ∀ w ∈ u_ws C T N, w ∈ Ts := fun w hw => hWG _ (q.2.1 w hw)
  have e1 : (zW tc S).set i (a, .inr (ci, (fvs S ci a 0 (fty ci)).set j (.int v))) = zW tc (setI S (64 * ci + j) a v) := zW_up hD ha hi2 rfl (wC_setI tc S v hk q.lt hj)
  have hlen : j < (fvs S ci a 0 (fty ci)).length := by rw [fvs_len]; exact (List.getElem?_eq_some_iff.mp hj).1
  exact va_putF hx hb hts hw ty q.2.2.1 q.2.2.2.1 hown hG.1 hP hD hS i hi q.1 j (q.jlt hj) (hts _ (hWG _ lk)) (fun _ h => h) hfin hin hdecl (q.2.2.1 j (q.jlt hj)) hn hf hlen d (fun H1 locs1 hP1 hD1 hS1 => kk H1 locs1 lsa (zP1_of e1 hP1) (zD1_of e1 hD1) hS1 hl)
theorem V.putPF (h : CX l D tc A p s m args meth c cc nL own Ts) (hin : meth.name = "<init>") (q : CLS ci C T N ty) (hj : (fty ci)[j]? = some false) (ha : a ∈ zL S) (hk : zK S a = ci) (lk : Cond.fieldLink own idx (T j).1 (T j).2.1 (T j).2.2.1 ∈ WG) (hfin : (T j).2.2.2 = true) (hdecl : (T j).1 = own) {v : Option Nat} (hn : narrow (ty j) (va_rf v) = va_rf v) (hf : fits (ty j) (va_rf v) = true) (d : decode cc pc = .ok (.putfield idx, 3))
    (kk : V l D tc A p e R s m args below meth c nL Q (setP S (64 * ci + j) a v) k n (pc + 3) ls st) : V l D tc A p e R s m args below meth c nL Q S k n pc ls (va_rf v :: .ref a :: st) := by
  intro H locs lsa hP hD hS hl
  obtain ⟨hx, hb, hml, hts, hown, hG, hA, hWG, -, -⟩ := h
  obtain ⟨i, hi, hi2⟩ := zW_obj (tc := tc) (A := A) q ha hk
  have hw : ∀ w ∈ u_ws C T N, w ∈ Ts := fun w hw => hWG _ (q.2.1 w hw)
  have e1 : (zW tc S).set i (a, .inr (ci, (fvs S ci a 0 (fty ci)).set j (va_rf v))) = zW tc (setP S (64 * ci + j) a v) := zW_up hD ha hi2 rfl (wC_setP tc S v hk q.lt hj)
  have hlen : j < (fvs S ci a 0 (fty ci)).length := by rw [fvs_len]; exact (List.getElem?_eq_some_iff.mp hj).1
  exact va_putF hx hb hts hw ty q.2.2.1 q.2.2.2.1 hown hG.1 hP hD hS i hi q.1 j (q.jlt hj) (hts _ (hWG _ lk)) (fun _ h => h) hfin hin hdecl (q.2.2.1 j (q.jlt hj)) hn hf hlen d (fun H1 locs1 hP1 hD1 hS1 => kk H1 locs1 lsa (zP1_of e1 hP1) (zD1_of e1 hD1) hS1 hl)
/-! arrays: the index by its number, the length known -/
theorem zW_arr (ka : Nat) (ha : a ∈ zL S) (hk : zK S a = ka) (h1 : ka = 20 ∨ ka = 21) {M : Nat} (hN : zN S a = M) : ∃ i : Nat, (zW tc S)[i]? = some (a, .inl (tc (ka - 20), M, .inl (zA S a))) ∧ (zW tc S)[i]? = some (a, wC tc S a) := by
  obtain ⟨i, hi⟩ := zW_at tc ha
  exact ⟨i, by rw [hi, wC_arr ka hk h1, hN], hi⟩
theorem zW_arq (ka : Nat) (ha : a ∈ zL S) (hk : zK S a = ka) (h1 : 23 ≤ ka) {M : Nat} (hN : zN S a = M) : ∃ i : Nat, (zW tc S)[i]? = some (a, .inl (tc (ka - 20), M, .inr (.inr (.inr (.inr (zR S a)))))) ∧ (zW tc S)[i]? = some (a, wC tc S a) := by
  obtain ⟨i, hi⟩ := zW_at tc ha
  exact ⟨i, by rw [hi, wC_arq ka hk h1, hN], hi⟩
theorem V.iald (h : CX l D tc A p s m args meth c cc nL own Ts) (ha : a ∈ zL S) (hk : zK S a = 20) {M i : Nat} (hN : zN S a = M) (hi : i < M) (hM : M < 2 ^ 31) (d : decode cc pc = .ok (.iaload, 1)) {v : Int32} (hv : zA S a i = v)
    (kk : V l D tc A p e R s m args below meth c nL Q S k n (pc + 1) ls (.int v :: st)) : V l D tc A p e R s m args below meth c nL Q S k n pc ls (.int (nI i) :: .ref a :: st) := by
  intro H locs lsa hP hD hS hl
  obtain ⟨hx, hb, hml, hts, hown, hG, hA, hWG, -, -⟩ := h
  obtain ⟨q0, hq, -⟩ := zW_arr (tc := tc) 20 ha hk (Or.inl rfl) hN
  refine va_iald hx hb hG.1 hP q0 0 hq rfl (vp_in_nI hi hM) d ?_
  rw [nI_clamp (by omega), hv]
  exact kk H locs lsa hP hD hS hl
theorem V.bald (h : CX l D tc A p s m args meth c cc nL own Ts) (ha : a ∈ zL S) (hk : zK S a = 21) {M i : Nat} (hN : zN S a = M) (hi : i < M) (hM : M < 2 ^ 31) (d : decode cc pc = .ok (.baload, 1)) {v : Int32} (hv : zA S a i = v)
    (kk : V l D tc A p e R s m args below meth c nL Q S k n (pc + 1) ls (.int v :: st)) : V l D tc A p e R s m args below meth c nL Q S k n pc ls (.int (nI i) :: .ref a :: st) := by
  intro H locs lsa hP hD hS hl
  obtain ⟨hx, hb, hml, hts, hown, hG, hA, hWG, -, -⟩ := h
  obtain ⟨q0, hq, -⟩ := zW_arr (tc := tc) 21 ha hk (Or.inr rfl) hN
  refine va_zald hx hb hG.1 hP q0 1 hq rfl (vp_in_nI hi hM) d ?_
  rw [nI_clamp (by omega), hv]
  exact kk H locs lsa hP hD hS hl
theorem V.aald (h : CX l D tc A p s m args meth c cc nL own Ts) (ka : Nat) (ha : a ∈ zL S) (hk : zK S a = ka) (h23 : 23 ≤ ka) {E : String} (ht : (ztys tc)[ka - 20]? = some (tc (ka - 20), .object E)) {M i : Nat} (hN : zN S a = M) (hi : i < M) (hM : M < 2 ^ 31) (d : decode cc pc = .ok (.aaload, 1)) {v : Option Nat} (hv : zR S a i = v)
    (kk : V l D tc A p e R s m args below meth c nL Q S k n (pc + 1) ls (va_rf v :: st)) : V l D tc A p e R s m args below meth c nL Q S k n pc ls (.int (nI i) :: .ref a :: st) := by
  intro H locs lsa hP hD hS hl
  obtain ⟨hx, hb, hml, hts, hown, hG, hA, hWG, -, -⟩ := h
  obtain ⟨q0, hq, -⟩ := zW_arq (tc := tc) ka ha hk h23 hN
  refine va_aldq hx hb hG.1 hP q0 (ka - 20) hq ht (vp_in_nI hi hM) d ?_
  rw [nI_clamp (by omega), hv]
  exact kk H locs lsa hP hD hS hl
theorem V.iast (h : CX l D tc A p s m args meth c cc nL own Ts) (ha : a ∈ zL S) (hk : zK S a = 20) {M i : Nat} (hN : zN S a = M) (hi : i < M) (hM : M < 2 ^ 31) (d : decode cc pc = .ok (.iastore, 1)) {v : Int32}
    (kk : V l D tc A p e R s m args below meth c nL Q (setA S a (upd (zA S a) i v)) k n (pc + 1) ls st) : V l D tc A p e R s m args below meth c nL Q S k n pc ls (.int v :: .int (nI i) :: .ref a :: st) := by
  intro H locs lsa hP hD hS hl
  obtain ⟨hx, hb, hml, hts, hown, hG, hA, hWG, -, -⟩ := h
  obtain ⟨q0, hq, hq2⟩ := zW_arr (tc := tc) 20 ha hk (Or.inl rfl) hN
  refine va_iast hx hb hG.1 hP hD hS q0 0 hq rfl (vp_in_nI hi hM) d (fun H1 locs1 hP1 hD1 hS1 => ?_)
  rw [nI_clamp (show i < 2 ^ 31 by omega), ← hN] at hP1 hD1
  have e1 : (zW tc S).set q0 (a, .inl (tc (20 - 20), zN S a, .inl (upd (zA S a) i v))) = zW tc (setA S a (upd (zA S a) i v)) := zW_up hD ha hq2 rfl (wC_setA tc S _ hk (Or.inl rfl))
  exact kk H1 locs1 lsa (zP1_of e1 hP1) (zD1_of e1 hD1) hS1 hl
theorem V.bast (h : CX l D tc A p s m args meth c cc nL own Ts) (ha : a ∈ zL S) (hk : zK S a = 21) {M i : Nat} (hN : zN S a = M) (hi : i < M) (hM : M < 2 ^ 31) (d : decode cc pc = .ok (.bastore, 1)) {v : Int32} (hv : vp_nar .boolean v = v)
    (kk : V l D tc A p e R s m args below meth c nL Q (setA S a (upd (zA S a) i v)) k n (pc + 1) ls st) : V l D tc A p e R s m args below meth c nL Q S k n pc ls (.int v :: .int (nI i) :: .ref a :: st) := by
  intro H locs lsa hP hD hS hl
  obtain ⟨hx, hb, hml, hts, hown, hG, hA, hWG, -, -⟩ := h
  obtain ⟨q0, hq, hq2⟩ := zW_arr (tc := tc) 21 ha hk (Or.inr rfl) hN
  refine va_zast hx hb hG.1 hP hD hS q0 1 hq rfl (vp_in_nI hi hM) d (fun H1 locs1 hP1 hD1 hS1 => ?_)
  rw [nI_clamp (show i < 2 ^ 31 by omega), hv, ← hN] at hP1 hD1
  have e1 : (zW tc S).set q0 (a, .inl (tc (21 - 20), zN S a, .inl (upd (zA S a) i v))) = zW tc (setA S a (upd (zA S a) i v)) := zW_up hD ha hq2 rfl (wC_setA tc S _ hk (Or.inr rfl))
  exact kk H1 locs1 lsa (zP1_of e1 hP1) (zD1_of e1 hD1) hS1 hl
theorem V.alen (h : CX l D tc A p s m args meth c cc nL own Ts) (ka : Nat) (ha : a ∈ zL S) (hk : zK S a = ka) (hka : ka = 20 ∨ ka = 21 ∨ 23 ≤ ka ∧ ka ≤ 27) {M : Nat} (hN : zN S a = M) (d : decode cc pc = .ok (.arraylength, 1))
    (kk : V l D tc A p e R s m args below meth c nL Q S k n (pc + 1) ls (.int (nI M) :: st)) : V l D tc A p e R s m args below meth c nL Q S k n pc ls (.ref a :: st) := by
  intro H locs lsa hP hD hS hl
  obtain ⟨hx, hb, hml, hts, hown, hG, hA, hWG, -, -⟩ := h
  by_cases h1 : ka = 20 ∨ ka = 21
  · obtain ⟨q0, hq, -⟩ := zW_arr (tc := tc) ka ha hk h1 hN
    rcases h1 with rfl | rfl
    · exact va_alen hx hb hG.1 hP q0 0 hq rfl rfl d (kk H locs lsa hP hD hS hl)
    · exact va_alen hx hb hG.1 hP q0 1 hq rfl rfl d (kk H locs lsa hP hD hS hl)
  · obtain ⟨q0, hq, -⟩ := zW_arq (tc := tc) ka ha hk (by omega) hN
    have h2 : ka = 23 ∨ ka = 24 ∨ ka = 25 ∨ ka = 26 ∨ ka = 27 := by omega
    rcases h2 with rfl | rfl | rfl | rfl | rfl
    · exact va_alen hx hb hG.1 hP q0 3 hq rfl rfl d (kk H locs lsa hP hD hS hl)
    · exact va_alen hx hb hG.1 hP q0 4 hq rfl rfl d (kk H locs lsa hP hD hS hl)
    · exact va_alen hx hb hG.1 hP q0 5 hq rfl rfl d (kk H locs lsa hP hD hS hl)
    · exact va_alen hx hb hG.1 hP q0 6 hq rfl rfl d (kk H locs lsa hP hD hS hl)
    · exact va_alen hx hb hG.1 hP q0 7 hq rfl rfl d (kk H locs lsa hP hD hS hl)
end VM
