/-! ===== more rows of V: objects that are made, casts, comparisons, switches, ends, calls ===== -/
theorem WG_good {w : Cond} (h : w ∈ WG) : goodWord w = true := (List.mem_filter.mp h).2
section VN
variable {l : Launch} {D : va_G} {tc : Nat → ClassId} {A : Nat → Prop} {p : Program} {e : Env} {R : Room} {s : State} {m : MethodId} {args : Array Value} {below : List Frame} {meth : Method} {c : Code} {nL : Nat} {Q : State → Prop} {S : HS} {k n : Nat} {pc : Nat} {ls : List (Option Value)} {st : List Value} {cc : ByteArray} {own : String} {Ts : List Cond}
variable {ci j idx N a : Nat} {C : String} {T : u_T} {ty : Nat → FieldType}
/-- an object into a row of its own class, or of Object -/
theorem V.aast (h : CX l D tc A p s m args meth c cc nL own Ts) (ka : Nat) (ha : a ∈ zL S) (hk : zK S a = ka) (h23 : 23 ≤ ka) {E : String} (ht : (ztys tc)[ka - 20]? = some (tc (ka - 20), .object E)) {M i : Nat} (hN : zN S a = M) (hi : i < M) (hM : M < 2 ^ 31) {v : Nat} (q : CLS ci C T N ty) (hv : v ∈ zL S) (hvk : zK S v = ci) (hE : E = C ∨ Cond.castable C E ∈ WK) (d : decode cc pc = .ok (.aastore, 1))
    (kk : V l D tc A p e R s m args below meth c nL Q (setR S a (va_up (zR S a) i (some v))) k n (pc + 1) ls st) : V l D tc A p e R s m args below meth c nL Q S k n pc ls (.ref v :: .int (nI i) :: .ref a :: st) := by
  intro H locs lsa hP hD hS hl
  obtain ⟨hx, hb, hml, hts, hown, hG, hA, hWG, -, -⟩ := h
  obtain ⟨q0, hq, hq2⟩ := zW_arq (tc := tc) ka ha hk h23 hN
  obtain ⟨qk, hqk, -⟩ := zW_obj (tc := tc) (A := A) q hv hvk
  have e1 : (zW tc S).set q0 (a, .inl (tc (ka - 20), zN S a, .inr (.inr (.inr (.inr (va_up (zR S a) i (some v))))))) = zW tc (setR S a (va_up (zR S a) i (some v))) := zW_up hD ha hq2 rfl (wC_setR tc S _ hk h23)
  rcases hE with hE | hE
  · subst hE
    refine va_astq hx hb hG.1 hP hD hS q0 (ka - 20) qk ci (r := (E, T, N)) hq ht hqk q.1 (vp_in_nI hi hM) d (fun H1 locs1 hP1 hD1 hS1 => ?_)
    rw [nI_clamp (show i < 2 ^ 31 by omega), ← hN] at hP1 hD1
    exact kk H1 locs1 lsa (zP1_of e1 hP1) (zD1_of e1 hD1) hS1 hl
  · refine va_astqO hx hb hG.1 hP hD hS q0 (ka - 20) qk ci (r := (C, T, N)) hq ht (hG.2.2.2.2.1 _ hE) hqk q.1 (vp_in_nI hi hM) d (fun H1 locs1 hP1 hD1 hS1 => ?_)
    rw [nI_clamp (show i < 2 ^ 31 by omega), ← hN] at hP1 hD1
    exact kk H1 locs1 lsa (zP1_of e1 hP1) (zD1_of e1 hD1) hS1 hl
theorem V.aastN (h : CX l D tc A p s m args meth c cc nL own Ts) (ka : Nat) (ha : a ∈ zL S) (hk : zK S a = ka) (h23 : 23 ≤ ka) {E : String} (ht : (ztys tc)[ka - 20]? = some (tc (ka - 20), .object E)) {M i : Nat} (hN : zN S a = M) (hi : i < M) (hM : M < 2 ^ 31) (d : decode cc pc = .ok (.aastore, 1))
    (kk : V l D tc A p e R s m args below meth c nL Q (setR S a (va_up (zR S a) i none)) k n (pc + 1) ls st) : V l D tc A p e R s m args below meth c nL Q S k n pc ls (.null :: .int (nI i) :: .ref a :: st) := by
  intro H locs lsa hP hD hS hl
  obtain ⟨hx, hb, hml, hts, hown, hG, hA, hWG, -, -⟩ := h
  obtain ⟨q0, hq, hq2⟩ := zW_arq (tc := tc) ka ha hk h23 hN
  have e1 : (zW tc S).set q0 (a, .inl (tc (ka - 20), zN S a, .inr (.inr (.inr (.inr (va_up (zR S a) i none)))))) = zW tc (setR S a (va_up (zR S a) i none)) := zW_up hD ha hq2 rfl (wC_setR tc S _ hk h23)
  refine va_astqN hx hb hG.1 hP hD hS q0 (ka - 20) hq ht (vp_in_nI hi hM) d (fun H1 locs1 hP1 hD1 hS1 => ?_)
  rw [nI_clamp (show i < 2 ^ 31 by omega), ← hN] at hP1 hD1
  exact kk H1 locs1 lsa (zP1_of e1 hP1) (zD1_of e1 hD1) hS1 hl
theorem V.castS (h : CX l D tc A p s m args meth c cc nL own Ts) (q : CLS ci C T N ty) (ha : a ∈ zL S) (hk : zK S a = ci) (lk : Cond.classLink own idx C ∈ WG) (d : decode cc pc = .ok (.checkcast idx, 3))
    (kk : V l D tc A p e R s m args below meth c nL Q S k n (pc + 3) ls (.ref a :: st)) : V l D tc A p e R s m args below meth c nL Q S k n pc ls (.ref a :: st) := by
  intro H locs lsa hP hD hS hl
  obtain ⟨hx, hb, hml, hts, hown, hG, hA, hWG, -, -⟩ := h
  obtain ⟨i, hi, -⟩ := zW_obj (tc := tc) (A := A) q ha hk
  exact va_castS hx hb hown (hts _ (hWG _ lk)) (hG.1.1 ci _ q.1).2 (va_recv hG.1 hP q.1 hi) d (kk H locs lsa hP hD hS hl)
theorem V.castN (h : CX l D tc A p s m args meth c cc nL own Ts) (d : decode cc pc = .ok (.checkcast idx, 3))
    (kk : V l D tc A p e R s m args below meth c nL Q S k n (pc + 3) ls (.null :: st)) : V l D tc A p e R s m args below meth c nL Q S k n pc ls (.null :: st) := by
  intro H locs lsa hP hD hS hl
  exact lv_castN h.1 h.2.1 d (kk H locs lsa hP hD hS hl)
theorem V.new (h : CX l D tc A p s m args meth c cc nL own Ts) (q : CLS ci C T N ty) (lk : Cond.classLink own idx C ∈ WG) (hz : Cond.instantiable C N ∈ WG) (hi : Cond.initialized C ∈ WG) (hk : k + 1 ≤ R.cells) (hn : n + N ≤ R.slots) (d : decode cc pc = .ok (.new idx, 3))
    (kk : ∀ q : Nat, q ∉ zL S → V l D tc A p e R s m args below meth c nL Q (newO S q ci) (k + 1) (n + N) (pc + 3) ls (.ref q :: st)) : V l D tc A p e R s m args below meth c nL Q S k n pc ls st := by
  intro H locs lsa hP hD hS hl
  obtain ⟨hx, hb, hml, hts, hown, hG, hA, hWG, -, -⟩ := h
  have hw : ∀ w ∈ u_ws C T N, w ∈ Ts := fun w hw => hWG _ (q.2.1 w hw)
  refine va_new hx hb hts hw ty q.2.2.1 hown (hts _ (hWG _ lk)) (hts _ (hWG _ hz)) (hts _ (hWG _ hi)) hG.1 hP hD hS hA q.1 q.2.2.2.2.2.2 hk hn d (fun x H1 hP1 hD1 hS1 => ?_)
  have hx : x ∉ zL S := fun hin => by
    obtain ⟨i, hi⟩ := zW_at tc hin
    have hlt := (List.getElem?_eq_some_iff.mp hi).1
    have h2 : (zW tc S ++ [(x, .inr (ci, (fty ci).map (fun b => if b = true then Value.int 0 else Value.null)))])[i]? = some (x, wC tc S x) := by rw [List.getElem?_append_left hlt]; exact hi
    have h3 : (zW tc S ++ [(x, .inr (ci, (fty ci).map (fun b => if b = true then Value.int 0 else Value.null)))])[(zW tc S).length]? = some (x, .inr (ci, (fty ci).map (fun b => if b = true then Value.int 0 else Value.null))) := by simp
    have := hD1.1 _ _ _ _ h2 h3 rfl
    omega
  have e1 := zW_push (tc := tc) (S := S) (S' := newO S x ci) hx rfl (wC_newO tc S (q := x) q.lt)
  exact kk x hx H1 locs lsa (zP1_of e1 hP1) (zD1_of e1 hD1) hS1 hl
/-- a new array of numbers: kind 20 (int), 21 (boolean) -/
theorem V.newarr (h : CX l D tc A p s m args meth c cc nL own Ts) (ka : Nat) {atype : ArrayType} {fy : FieldType} (hka : (ka = 20 ∧ fy = .int) ∨ (ka = 21 ∧ fy = .boolean)) (hty : newarray.typeOf atype = fy) (hw : Cond.arrayClass fy ∈ WG) {M : Nat} (hM : M ≤ 20000) (hk : k + 1 ≤ R.cells) (hn : n + M ≤ R.slots) (d : decode cc pc = .ok (.newarray atype, 2))
    (kk : ∀ q : Nat, q ∉ zL S → V l D tc A p e R s m args below meth c nL Q (newA S q ka M) (k + 1) (n + M) (pc + 2) ls (.ref q :: st)) : V l D tc A p e R s m args below meth c nL Q S k n pc ls (.int (nI M) :: st) := by
  intro H locs lsa hP hD hS hl
  obtain ⟨hx, hb, hml, hts, hown, hG, hA, hWG, -, -⟩ := h
  have hcomp : componentBytes fy ≤ 4 := by rcases hka with ⟨-, rfl⟩ | ⟨-, rfl⟩ <;> decide
  have hdef : defaultValue fy = .int 0 := by rcases hka with ⟨-, rfl⟩ | ⟨-, rfl⟩ <;> rfl
  have hbytes : M * componentBytes fy ≤ 536870912 := Nat.le_trans (Nat.mul_le_mul hM hcomp) (by decide)
  refine va_newa hx hb (by rw [hty]; exact hts _ (hWG _ hw)) hty hG.1 hP hD hS hA (a0 := (M, .inl (fun _ => 0))) (N' := M) (fun cA => by rw [hdef]; exact vp_cell_i ..) (nI_pos (by omega)) (nI_clamp (by omega)) hbytes hk hn d (fun x cA H1 hK1 hP1 hD1 hS1 => ?_)
  have hcA : cA = tc (ka - 20) := by
    have h1 := (hK1.2 (ztys tc).length (cA, fy) (by simp)).2
    have h2 := hG.1.2
    rcases hka with ⟨rfl, rfl⟩ | ⟨rfl, rfl⟩
    · exact Option.some.inj (h1.symm.trans (h2 0 _ rfl).2)
    · exact Option.some.inj (h1.symm.trans (h2 1 _ rfl).2)
  subst hcA
  have hx : x ∉ zL S := fun hin => by
    obtain ⟨i, hi⟩ := zW_at tc hin
    have hlt := (List.getElem?_eq_some_iff.mp hi).1
    have h2 : (zW tc S ++ [(x, .inl (tc (ka - 20), M, .inl (fun _ => 0)))])[i]? = some (x, wC tc S x) := by rw [List.getElem?_append_left hlt]; exact hi
    have h3 : (zW tc S ++ [(x, (.inl (tc (ka - 20), M, .inl (fun _ => 0)) : va_E))])[(zW tc S).length]? = some (x, .inl (tc (ka - 20), M, .inl (fun _ => 0))) := by simp
    have := hD1.1 _ _ _ _ h2 h3 rfl
    omega
  have e0 : wC tc (newA S x ka M) x = .inl (tc (ka - 20), M, .inl (fun _ => 0)) := by
    rw [wC_arr (S := newA S x ka M) ka (by simp [newA, zK, va_up]) (by omega)]
    simp [newA, zN, zA, va_up]
  have e1 := zW_push (tc := tc) (S := S) (S' := newA S x ka M) hx rfl (wC_newA tc S (q := x) (by omega) e0)
  exact kk x hx H1 locs lsa (zP1_of e1 hP1) (zD1_of e1 hD1) hS1 hl
/-- a new array of references -/
theorem V.anewarr (h : CX l D tc A p s m args meth c cc nL own Ts) (ka : Nat) {E : String} (h23 : 23 ≤ ka) (ht : (ztys tc)[ka - 20]? = some (tc (ka - 20), .object E)) (hao : va_AO E s) (lk : Cond.classLink own idx E ∈ WG) {M : Nat} (hM : M ≤ 20000) (hk : k + 1 ≤ R.cells) (hn : n + M ≤ R.slots) (d : decode cc pc = .ok (.anewarray idx, 3))
    (kk : ∀ q : Nat, q ∉ zL S → V l D tc A p e R s m args below meth c nL Q (newA S q ka M) (k + 1) (n + M) (pc + 3) ls (.ref q :: st)) : V l D tc A p e R s m args below meth c nL Q S k n pc ls (.int (nI M) :: st) := by
  intro H locs lsa hP hD hS hl
  obtain ⟨hx, hb, hml, hts, hown, hG, hA, hWG, -, -⟩ := h
  refine va_newq hx hb hown (hts _ (hWG _ lk)) hao hG.1 hP hD hS hA (N' := M) (nI_pos (by omega)) (nI_clamp (by omega)) (by omega) hk hn d (fun x cA H1 hK1 hP1 hD1 hS1 => ?_)
  have hcA : cA = tc (ka - 20) := by
    obtain ⟨-, -, -, -, -, h1⟩ := (hK1.2 (ztys tc).length (cA, .object E) (by simp)).2
    obtain ⟨-, -, -, -, -, h2⟩ := (hG.1.2 (ka - 20) _ ht).2
    exact Option.some.inj (h1.symm.trans h2)
  subst hcA
  have hx : x ∉ zL S := fun hin => by
    obtain ⟨i, hi⟩ := zW_at tc hin
    have hlt := (List.getElem?_eq_some_iff.mp hi).1
    have h2 : (zW tc S ++ [(x, .inl (tc (ka - 20), M, .inr (.inr (.inr (.inr (fun _ => none))))))])[i]? = some (x, wC tc S x) := by rw [List.getElem?_append_left hlt]; exact hi
    have h3 : (zW tc S ++ [(x, (.inl (tc (ka - 20), M, .inr (.inr (.inr (.inr (fun _ => none))))) : va_E))])[(zW tc S).length]? = some (x, .inl (tc (ka - 20), M, .inr (.inr (.inr (.inr (fun _ => none)))))) := by simp
    have := hD1.1 _ _ _ _ h2 h3 rfl
    omega
  have e0 : wC tc (newA S x ka M) x = .inl (tc (ka - 20), M, .inr (.inr (.inr (.inr (fun _ => none))))) := by
    rw [wC_arq (S := newA S x ka M) ka (by simp [newA, zK, va_up]) h23]
    simp [newA, zN, zR, va_up]
  have e1 := zW_push (tc := tc) (S := S) (S' := newA S x ka M) hx rfl (wC_newA tc S (q := x) (by omega) e0)
  exact kk x hx H1 locs lsa (zP1_of e1 hP1) (zD1_of e1 hD1) hS1 hl
theorem V.objInit (h : CX l D tc A p s m args meth c cc nL own Ts) (lk : Cond.methodLink own idx Lib.objectInit ∈ WG) (hi : Cond.instanceMethod Lib.objectInit ∈ WG) (hc : Cond.code Lib.objectInit ⟨#[0xb1]⟩ 1 none ∈ WG) (d : decode cc pc = .ok (.invokespecial idx, 3)) (hf : 1 ≤ R.frames) (hlo : (st.map fun v => v.category).sum + 12 ≤ R.locals)
    (kk : V l D tc A p e R s m args below meth c nL Q S k n (pc + 3) ls st) : V l D tc A p e R s m args below meth c nL Q S k n pc ls (.ref a :: st) := by
  intro H locs lsa hP hD hS hl
  obtain ⟨hx, hb, hml, hts, hown, hG, hA, hWG, -, -⟩ := h
  exact W.objInit hx hb hown (hts _ (hWG _ lk)) (hts _ (hWG _ hi)) (hts _ (hWG _ hc)) rfl (by rw [hml]; exact hl.1) rfl d hf (by simpa [JFrame.monitorRoom] using hlo) (kk H locs lsa hP hD hS hl)
theorem V.if_eq (h : CX l D tc A p s m args meth c cc nL own Ts) {x : Int32} {off : Int} {tgt : Nat} (d : decode cc pc = .ok (.ifCond .eq off, 3)) (ht : (pc : Int) + off = (tgt : Int)) (kt : x = 0 → V l D tc A p e R s m args below meth c nL Q S k n tgt ls st) (kf : ¬ x = 0 → V l D tc A p e R s m args below meth c nL Q S k n (pc + 3) ls st) : V l D tc A p e R s m args below meth c nL Q S k n pc ls (.int x :: st) := fun H locs lsa hP hD hS hl => lv_if_eq h.1 h.2.1 d ht (fun q => kt q H locs lsa hP hD hS hl) (fun q => kf q H locs lsa hP hD hS hl)
theorem V.if_ne (h : CX l D tc A p s m args meth c cc nL own Ts) {x : Int32} {off : Int} {tgt : Nat} (d : decode cc pc = .ok (.ifCond .ne off, 3)) (ht : (pc : Int) + off = (tgt : Int)) (kt : ¬ x = 0 → V l D tc A p e R s m args below meth c nL Q S k n tgt ls st) (kf : x = 0 → V l D tc A p e R s m args below meth c nL Q S k n (pc + 3) ls st) : V l D tc A p e R s m args below meth c nL Q S k n pc ls (.int x :: st) := fun H locs lsa hP hD hS hl => lv_if_ne h.1 h.2.1 d ht (fun q => kt q H locs lsa hP hD hS hl) (fun q => kf q H locs lsa hP hD hS hl)
theorem V.if_lt (h : CX l D tc A p s m args meth c cc nL own Ts) {x : Int32} {off : Int} {tgt : Nat} (d : decode cc pc = .ok (.ifCond .lt off, 3)) (ht : (pc : Int) + off = (tgt : Int)) (kt : x < 0 → V l D tc A p e R s m args below meth c nL Q S k n tgt ls st) (kf : ¬ x < 0 → V l D tc A p e R s m args below meth c nL Q S k n (pc + 3) ls st) : V l D tc A p e R s m args below meth c nL Q S k n pc ls (.int x :: st) := fun H locs lsa hP hD hS hl => lv_if_lt h.1 h.2.1 d ht (fun q => kt q H locs lsa hP hD hS hl) (fun q => kf q H locs lsa hP hD hS hl)
theorem V.if_ge (h : CX l D tc A p s m args meth c cc nL own Ts) {x : Int32} {off : Int} {tgt : Nat} (d : decode cc pc = .ok (.ifCond .ge off, 3)) (ht : (pc : Int) + off = (tgt : Int)) (kt : 0 ≤ x → V l D tc A p e R s m args below meth c nL Q S k n tgt ls st) (kf : ¬ 0 ≤ x → V l D tc A p e R s m args below meth c nL Q S k n (pc + 3) ls st) : V l D tc A p e R s m args below meth c nL Q S k n pc ls (.int x :: st) := fun H locs lsa hP hD hS hl => lv_if_ge h.1 h.2.1 d ht (fun q => kt q H locs lsa hP hD hS hl) (fun q => kf q H locs lsa hP hD hS hl)
theorem V.if_gt (h : CX l D tc A p s m args meth c cc nL own Ts) {x : Int32} {off : Int} {tgt : Nat} (d : decode cc pc = .ok (.ifCond .gt off, 3)) (ht : (pc : Int) + off = (tgt : Int)) (kt : 0 < x → V l D tc A p e R s m args below meth c nL Q S k n tgt ls st) (kf : ¬ 0 < x → V l D tc A p e R s m args below meth c nL Q S k n (pc + 3) ls st) : V l D tc A p e R s m args below meth c nL Q S k n pc ls (.int x :: st) := fun H locs lsa hP hD hS hl => lv_if_gt h.1 h.2.1 d ht (fun q => kt q H locs lsa hP hD hS hl) (fun q => kf q H locs lsa hP hD hS hl)
theorem V.if_le (h : CX l D tc A p s m args meth c cc nL own Ts) {x : Int32} {off : Int} {tgt : Nat} (d : decode cc pc = .ok (.ifCond .le off, 3)) (ht : (pc : Int) + off = (tgt : Int)) (kt : x ≤ 0 → V l D tc A p e R s m args below meth c nL Q S k n tgt ls st) (kf : ¬ x ≤ 0 → V l D tc A p e R s m args below meth c nL Q S k n (pc + 3) ls st) : V l D tc A p e R s m args below meth c nL Q S k n pc ls (.int x :: st) := fun H locs lsa hP hD hS hl => lv_if_le h.1 h.2.1 d ht (fun q => kt q H locs lsa hP hD hS hl) (fun q => kf q H locs lsa hP hD hS hl)
theorem V.icmp_eq (h : CX l D tc A p s m args meth c cc nL own Ts) {x y : Int32} {off : Int} {tgt : Nat} (d : decode cc pc = .ok (.if_icmp .eq off, 3)) (ht : (pc : Int) + off = (tgt : Int)) (kt : x = y → V l D tc A p e R s m args below meth c nL Q S k n tgt ls st) (kf : ¬ x = y → V l D tc A p e R s m args below meth c nL Q S k n (pc + 3) ls st) : V l D tc A p e R s m args below meth c nL Q S k n pc ls (.int y :: .int x :: st) := fun H locs lsa hP hD hS hl => lv_icmp_eq h.1 h.2.1 d ht (fun q => kt q H locs lsa hP hD hS hl) (fun q => kf q H locs lsa hP hD hS hl)
theorem V.icmp_ne (h : CX l D tc A p s m args meth c cc nL own Ts) {x y : Int32} {off : Int} {tgt : Nat} (d : decode cc pc = .ok (.if_icmp .ne off, 3)) (ht : (pc : Int) + off = (tgt : Int)) (kt : ¬ x = y → V l D tc A p e R s m args below meth c nL Q S k n tgt ls st) (kf : x = y → V l D tc A p e R s m args below meth c nL Q S k n (pc + 3) ls st) : V l D tc A p e R s m args below meth c nL Q S k n pc ls (.int y :: .int x :: st) := fun H locs lsa hP hD hS hl => lv_icmp_ne h.1 h.2.1 d ht (fun q => kt q H locs lsa hP hD hS hl) (fun q => kf q H locs lsa hP hD hS hl)
theorem V.icmp_lt (h : CX l D tc A p s m args meth c cc nL own Ts) {x y : Int32} {off : Int} {tgt : Nat} (d : decode cc pc = .ok (.if_icmp .lt off, 3)) (ht : (pc : Int) + off = (tgt : Int)) (kt : x < y → V l D tc A p e R s m args below meth c nL Q S k n tgt ls st) (kf : ¬ x < y → V l D tc A p e R s m args below meth c nL Q S k n (pc + 3) ls st) : V l D tc A p e R s m args below meth c nL Q S k n pc ls (.int y :: .int x :: st) := fun H locs lsa hP hD hS hl => lv_icmp_lt h.1 h.2.1 d ht (fun q => kt q H locs lsa hP hD hS hl) (fun q => kf q H locs lsa hP hD hS hl)
theorem V.icmp_ge (h : CX l D tc A p s m args meth c cc nL own Ts) {x y : Int32} {off : Int} {tgt : Nat} (d : decode cc pc = .ok (.if_icmp .ge off, 3)) (ht : (pc : Int) + off = (tgt : Int)) (kt : y ≤ x → V l D tc A p e R s m args below meth c nL Q S k n tgt ls st) (kf : ¬ y ≤ x → V l D tc A p e R s m args below meth c nL Q S k n (pc + 3) ls st) : V l D tc A p e R s m args below meth c nL Q S k n pc ls (.int y :: .int x :: st) := fun H locs lsa hP hD hS hl => lv_icmp_ge h.1 h.2.1 d ht (fun q => kt q H locs lsa hP hD hS hl) (fun q => kf q H locs lsa hP hD hS hl)
theorem V.icmp_gt (h : CX l D tc A p s m args meth c cc nL own Ts) {x y : Int32} {off : Int} {tgt : Nat} (d : decode cc pc = .ok (.if_icmp .gt off, 3)) (ht : (pc : Int) + off = (tgt : Int)) (kt : y < x → V l D tc A p e R s m args below meth c nL Q S k n tgt ls st) (kf : ¬ y < x → V l D tc A p e R s m args below meth c nL Q S k n (pc + 3) ls st) : V l D tc A p e R s m args below meth c nL Q S k n pc ls (.int y :: .int x :: st) := fun H locs lsa hP hD hS hl => lv_icmp_gt h.1 h.2.1 d ht (fun q => kt q H locs lsa hP hD hS hl) (fun q => kf q H locs lsa hP hD hS hl)
theorem V.icmp_le (h : CX l D tc A p s m args meth c cc nL own Ts) {x y : Int32} {off : Int} {tgt : Nat} (d : decode cc pc = .ok (.if_icmp .le off, 3)) (ht : (pc : Int) + off = (tgt : Int)) (kt : x ≤ y → V l D tc A p e R s m args below meth c nL Q S k n tgt ls st) (kf : ¬ x ≤ y → V l D tc A p e R s m args below meth c nL Q S k n (pc + 3) ls st) : V l D tc A p e R s m args below meth c nL Q S k n pc ls (.int y :: .int x :: st) := fun H locs lsa hP hD hS hl => lv_icmp_le h.1 h.2.1 d ht (fun q => kt q H locs lsa hP hD hS hl) (fun q => kf q H locs lsa hP hD hS hl)
theorem V.goto (h : CX l D tc A p s m args meth c cc nL own Ts) {off : Int} {tgt : Nat} (d : decode cc pc = .ok (.goto off, 3)) (ht : (pc : Int) + off = (tgt : Int)) (kk : V l D tc A p e R s m args below meth c nL Q S k n tgt ls st) : V l D tc A p e R s m args below meth c nL Q S k n pc ls st := fun H locs lsa hP hD hS hl => lv_goto h.1 h.2.1 d ht (kk H locs lsa hP hD hS hl)
theorem V.ifnull (h : CX l D tc A p s m args meth c cc nL own Ts) {off : Int} {tgt : Nat} {o : Option Nat} (d : decode cc pc = .ok (.ifnull off, 3)) (ht : (pc : Int) + off = (tgt : Int)) (kt : o = none → V l D tc A p e R s m args below meth c nL Q S k n tgt ls st) (kf : ∀ x, o = some x → V l D tc A p e R s m args below meth c nL Q S k n (pc + 3) ls st) : V l D tc A p e R s m args below meth c nL Q S k n pc ls (va_rf o :: st) := by
  intro H locs lsa hP hD hS hl
  cases o with
  | none => exact lv_ifnullN h.1 h.2.1 d ht (kt rfl H locs lsa hP hD hS hl)
  | some x => exact lv_ifnull h.1 h.2.1 d (kf x rfl H locs lsa hP hD hS hl)
theorem V.ifnonnull (h : CX l D tc A p s m args meth c cc nL own Ts) {off : Int} {tgt : Nat} {o : Option Nat} (d : decode cc pc = .ok (.ifnonnull off, 3)) (ht : (pc : Int) + off = (tgt : Int)) (kt : ∀ x, o = some x → V l D tc A p e R s m args below meth c nL Q S k n tgt ls st) (kf : o = none → V l D tc A p e R s m args below meth c nL Q S k n (pc + 3) ls st) : V l D tc A p e R s m args below meth c nL Q S k n pc ls (va_rf o :: st) := by
  intro H locs lsa hP hD hS hl
  cases o with
  | none => exact lv_ifnonnullN h.1 h.2.1 d (kf rfl H locs lsa hP hD hS hl)
  | some x => exact lv_ifnonnull h.1 h.2.1 d ht (kt x rfl H locs lsa hP hD hS hl)
theorem V.acmp_eq (h : CX l D tc A p s m args meth c cc nL own Ts) {rx ry : Option Nat} {off : Int} {tgt : Nat} (d : decode cc pc = .ok (.if_acmp .eq off, 3)) (ht : (pc : Int) + off = (tgt : Int)) (kt : rx = ry → V l D tc A p e R s m args below meth c nL Q S k n tgt ls st) (kf : ¬ rx = ry → V l D tc A p e R s m args below meth c nL Q S k n (pc + 3) ls st) : V l D tc A p e R s m args below meth c nL Q S k n pc ls (va_rf ry :: va_rf rx :: st) := fun H locs lsa hP hD hS hl => lv_acmp_eq h.1 h.2.1 d ht (fun q => kt q H locs lsa hP hD hS hl) (fun q => kf q H locs lsa hP hD hS hl)
theorem V.acmp_ne (h : CX l D tc A p s m args meth c cc nL own Ts) {rx ry : Option Nat} {off : Int} {tgt : Nat} (d : decode cc pc = .ok (.if_acmp .ne off, 3)) (ht : (pc : Int) + off = (tgt : Int)) (kt : ¬ rx = ry → V l D tc A p e R s m args below meth c nL Q S k n tgt ls st) (kf : rx = ry → V l D tc A p e R s m args below meth c nL Q S k n (pc + 3) ls st) : V l D tc A p e R s m args below meth c nL Q S k n pc ls (va_rf ry :: va_rf rx :: st) := fun H locs lsa hP hD hS hl => lv_acmp_ne h.1 h.2.1 d ht (fun q => kt q H locs lsa hP hD hS hl) (fun q => kf q H locs lsa hP hD hS hl)
theorem V.ishl (h : CX l D tc A p s m args meth c cc nL own Ts) {x y v : Int32} (hv : x <<< (y &&& 31) = v) (d : decode cc pc = .ok (.ishl, 1)) (kk : V l D tc A p e R s m args below meth c nL Q S k n (pc + 1) ls (.int v :: st)) : V l D tc A p e R s m args below meth c nL Q S k n pc ls (.int y :: .int x :: st) := by
  subst hv
  exact fun H locs lsa hP hD hS hl => lv_ishl h.1 h.2.1 d (kk H locs lsa hP hD hS hl)
theorem V.irem (h : CX l D tc A p s m args meth c cc nL own Ts) {x y v : Int32} (hy : ¬ y = 0) (hv : x - x / y * y = v) (d : decode cc pc = .ok (.irem, 1)) (kk : V l D tc A p e R s m args below meth c nL Q S k n (pc + 1) ls (.int v :: st)) : V l D tc A p e R s m args below meth c nL Q S k n pc ls (.int y :: .int x :: st) := by
  subst hv
  exact fun H locs lsa hP hD hS hl => lv_irem h.1 h.2.1 d hy (kk H locs lsa hP hD hS hl)
theorem V.tableIn (h : CX l D tc A p s m args meth c cc nL own Ts) {dflt lo hi : Int} {offs : Array Int} {len : Nat} {x : Int32} {off : Int} {tgt : Nat} (d : decode cc pc = .ok (.tableswitch dflt lo hi offs, len)) (h1 : ¬ x.toInt < lo) (h2 : ¬ hi < x.toInt) (ho : offs[(x.toInt - lo).toNat]? = some off) (ht : (pc : Int) + off = (tgt : Int)) (kk : V l D tc A p e R s m args below meth c nL Q S k n tgt ls st) : V l D tc A p e R s m args below meth c nL Q S k n pc ls (.int x :: st) := fun H locs lsa hP hD hS hl => lv_tableIn h.1 h.2.1 d h1 h2 ho ht (kk H locs lsa hP hD hS hl)
theorem V.tableOut (h : CX l D tc A p s m args meth c cc nL own Ts) {dflt lo hi : Int} {offs : Array Int} {len : Nat} {x : Int32} {tgt : Nat} (d : decode cc pc = .ok (.tableswitch dflt lo hi offs, len)) (h1 : x.toInt < lo ∨ hi < x.toInt) (ht : (pc : Int) + dflt = (tgt : Int)) (kk : V l D tc A p e R s m args below meth c nL Q S k n tgt ls st) : V l D tc A p e R s m args below meth c nL Q S k n pc ls (.int x :: st) := fun H locs lsa hP hD hS hl => lv_tableOut h.1 h.2.1 d h1 ht (kk H locs lsa hP hD hS hl)
/-- a local that is a reference or null -/
theorem V.aloadq (h : CX l D tc A p s m args meth c cc nL own Ts) {i : Nat} {o : Option Nat} (d : (∃ x : Fin 4, (x : Nat) = i ∧ decode cc pc = .ok (.aload_n x, 1))) (hl0 : ls[i]? = some (some (va_rf o))) (kk : V l D tc A p e R s m args below meth c nL Q S k n (pc + 1) ls (va_rf o :: st)) : V l D tc A p e R s m args below meth c nL Q S k n pc ls st := by
  intro H locs lsa hP hD hS hl
  obtain ⟨x, rfl, d⟩ := d
  cases o with
  | none => exact lv_aload_nN h.1 h.2.1 d rfl (hl.get hl0) (kk H locs lsa hP hD hS hl)
  | some y => exact lv_aload_n h.1 h.2.1 d rfl (hl.get hl0) (kk H locs lsa hP hD hS hl)
end VN
