/-! ===== a list grows ===== -/
section
variable {l : Launch} {D : va_G} {tc : Nat → ClassId} {A : Nat → Prop} {p : Program} {e : Env} {R : Room} {s : State} {m : MethodId} {args : Array Value} {below : List Frame} {meth : Method} {c : Code} {nL : Nat} {Q : State → Prop} {S : HS} {k n : Nat} {pc : Nat} {ls : List (Option Value)} {st : List Value} {cc : ByteArray} {own : String} {Ts : List Cond}
theorem V.ishr1 (h : CX l D tc A p s m args meth c cc nL own Ts) {x y v : Int32} (hv : x >>> (y &&& 31) = v) (d : decode cc pc = .ok (.ishr, 1)) (kk : V l D tc A p e R s m args below meth c nL Q S k n (pc + 1) ls (.int v :: st)) : V l D tc A p e R s m args below meth c nL Q S k n pc ls (.int y :: .int x :: st) := by
  subst hv
  exact fun H locs lsa hP hD hS hl => lv_ishr h.1 h.2.1 d (kk H locs lsa hP hD hS hl)
theorem V.ldc (h : CX l D tc A p s m args meth c cc nL own Ts) {idx : Nat} {v : Int32} (lk : Cond.constant own idx v ∈ WG) (d : decode cc pc = .ok (.ldc idx, 2)) (kk : V l D tc A p e R s m args below meth c nL Q S k n (pc + 2) ls (.int v :: st)) : V l D tc A p e R s m args below meth c nL Q S k n pc ls st := by
  intro H locs lsa hP hD hS hl
  obtain ⟨hx, hb, hml, hts, hown, hG, hA, hWG, -, -⟩ := h
  exact lv_ldc hx hb hown (hts _ (hWG _ lk)) d (kk H locs lsa hP hD hS hl)
theorem V.mmax (h : CX l D tc A p s m args meth c cc nL own Ts) {idx : Nat} (lk : Cond.methodLink own idx yJ9_max_7cf53 ∈ WG) {x y v : Int32} (hv : mxF x y = v) (d : decode cc pc = .ok (.invokestatic idx, 3)) (hf : 1 ≤ R.frames) (hlo : (st.map fun v => v.category).sum + 13 ≤ R.locals) (hc : k ≤ R.cells) (hs : n ≤ R.slots) (kk : V l D tc A p e R s m args below meth c nL Q S k n (pc + 3) ls (.int v :: st)) : V l D tc A p e R s m args below meth c nL Q S k n pc ls (.int y :: .int x :: st) := by
  intro H locs lsa hP hD hS hl
  subst hv
  obtain ⟨hx, hb, hml, hts, hown, hG, hA, hWG, -, -⟩ := h
  exact va_mmax hx hb (hml.trans hl.1.symm) hown (hts _ (hWG _ lk)) (hts _ (hWG _ wt_J9_max_7cf53)) (hts _ (hWG _ wn_RJ9)) (hts _ (hWG _ wc_J9_max_7cf53)) hf hlo hc hs d (kk H locs lsa hP hD hS hl)
theorem V.mmin (h : CX l D tc A p s m args meth c cc nL own Ts) {idx : Nat} (lk : Cond.methodLink own idx yJ9_min_7cf53 ∈ WG) {x y v : Int32} (hv : mnF x y = v) (d : decode cc pc = .ok (.invokestatic idx, 3)) (hf : 1 ≤ R.frames) (hlo : (st.map fun v => v.category).sum + 13 ≤ R.locals) (hc : k ≤ R.cells) (hs : n ≤ R.slots) (kk : V l D tc A p e R s m args below meth c nL Q S k n (pc + 3) ls (.int v :: st)) : V l D tc A p e R s m args below meth c nL Q S k n pc ls (.int y :: .int x :: st) := by
  intro H locs lsa hP hD hS hl
  subst hv
  obtain ⟨hx, hb, hml, hts, hown, hG, hA, hWG, -, -⟩ := h
  exact va_mmin hx hb (hml.trans hl.1.symm) hown (hts _ (hWG _ lk)) (hts _ (hWG _ wt_J9_min_7cf53)) (hts _ (hWG _ wn_RJ9)) (hts _ (hWG _ wc_J9_min_7cf53)) hf hlo hc hs d (kk H locs lsa hP hD hS hl)
/-- the Class of Object[], out of the pool of constants and from an array -/
theorem V.ldcM (h : CX l D tc A p s m args meth c cc nL own Ts) {idx : Nat} (lk : Cond.classLink own idx "[Ljava/lang/Object;" ∈ WG) (d : decode cc pc = .ok (.ldc idx, 2)) (kk : V l D tc A p e R s m args below meth c nL Q S k n (pc + 2) ls (.ref (tc 101) :: st)) : V l D tc A p e R s m args below meth c nL Q S k n pc ls st := by
  intro H locs lsa hP hD hS hl
  obtain ⟨hx, hb, hml, hts, hown, hG, hA, hWG, -, -⟩ := h
  exact va_ldcM hx hb hown (hts _ (hWG _ lk)) hG.2.2.2.2.2.1.2.2 d (kk H locs lsa hP hD hS hl)
theorem V.getC (h : CX l D tc A p s m args meth c cc nL own Ts) {idx t : Nat} (lk : Cond.methodLink own idx ⟨"java/lang/Object", "getClass", "()Ljava/lang/Class;"⟩ ∈ WG) (ht : t ∈ zL S) (hk : zK S t = 23) (d : decode cc pc = .ok (.invokevirtual idx, 3)) (hf : 1 ≤ R.frames) (hlo : (st.map fun v => v.category).sum + 14 ≤ R.locals) (kk : V l D tc A p e R s m args below meth c nL Q S k n (pc + 3) ls (.ref (tc 101) :: st)) : V l D tc A p e R s m args below meth c nL Q S k n pc ls (.ref t :: st) := by
  intro H locs lsa hP hD hS hl
  obtain ⟨hx, hb, hml, hts, hown, hG, hA, hWG, -, -⟩ := h
  obtain ⟨q0, hq, -⟩ := zW_arq (tc := tc) 23 ht hk (by decide) (M := zN S t) rfl
  have h1 : H[t]? = some (vp_cell (tc 3) (zN S t, .inr (.inr (.inr (.inr (zR S t)))))) := hP _ _ hq
  obtain ⟨-, -, -, -, -, h2⟩ := (hG.1.2 3 _ (rfl : (ztys tc)[3]? = some (tc 3, .object "java/lang/Object"))).2
  exact va_getC hx hb (hml.trans hl.1.symm) hown (hts _ (hWG _ lk)) (va_Nw.use rfl (hG.2.2.2.2.1 _ (List.mem_of_getElem? (i := 8) rfl))) (hts _ (hWG _ we__Ljava_lang_Object__Object_getClass)) (hts _ (hWG _ wi_Object_getClass)) (hts _ (hWG _ wv_Object_getClass)) hG.2.2.2.2.2.1.2.2
    ⟨_, h1, rfl, h2⟩ hf hlo d (kk H locs lsa hP hD hS hl)
/-- the length of the empty array -/
theorem V.alenE (h : CX l D tc A p s m args meth c cc nL own Ts) (d : decode cc pc = .ok (.arraylength, 1)) (kk : V l D tc A p e R s m args below meth c nL Q S k n (pc + 1) ls (.int (nI 0) :: st)) : V l D tc A p e R s m args below meth c nL Q S k n pc ls (.ref (tc 100) :: st) := by
  intro H locs lsa hP hD hS hl
  obtain ⟨hx, hb, hml, hts, hown, hG, hA, hWG, -, -⟩ := h
  exact va_tlen hx hb hG.2.2.2.2.2.1.2.1 hS (v := nI 0) rfl d (kk H locs lsa hP hD hS hl)
/-- System.arraycopy between arrays of Objects: what is copied is of one class -/
theorem V.copyq (h : CX l D tc A p s m args meth c cc nL own Ts) {idx : Nat} (lk : Cond.methodLink own idx ⟨"java/lang/System", "arraycopy", "(Ljava/lang/Object;ILjava/lang/Object;II)V"⟩ ∈ WG) {t u M N sp dp z ci NC : Nat} {C : String} {T : u_T} {ty : Nat → FieldType} (q : CLS ci C T NC ty) (hC : Cond.castable C "java/lang/Object" ∈ WK)
    (ht : t ∈ zL S) (hk : zK S t = 23) (hM : zN S t = M) (hu : u ∈ zL S) (huk : zK S u = 23) (hN : zN S u = N) (h1 : sp + z ≤ M) (h2 : dp + z ≤ N) (hM2 : M < 2 ^ 30) (hN2 : N < 2 ^ 30) (hel : ∀ i y, i < z → zR S t (sp + i) = some y → y ∈ zL S ∧ zK S y = ci)
    (d : decode cc pc = .ok (.invokestatic idx, 3)) (hf : 1 ≤ R.frames) (hlo : (st.map fun v => v.category).sum + 30 ≤ R.locals)
    (kk : V l D tc A p e R s m args below meth c nL Q (setR S u (va_cpy (zR S t) (zR S u) sp dp z)) k n (pc + 3) ls st) : V l D tc A p e R s m args below meth c nL Q S k n pc ls (.int (nI z) :: .int (nI dp) :: .ref u :: .int (nI sp) :: .ref t :: st) := by
  intro H locs lsa hP hD hS hl
  obtain ⟨hx, hb, hml, hts, hown, hG, hA, hWG, -, -⟩ := h
  obtain ⟨q0, hq, -⟩ := zW_arq (tc := tc) 23 ht hk (by decide) hM
  obtain ⟨q1, hq1, hq12⟩ := zW_arq (tc := tc) 23 hu huk (by decide) hN
  have e1 : (zW tc S).set q1 (u, .inl (tc (23 - 20), zN S u, .inr (.inr (.inr (.inr (va_cpy (zR S t) (zR S u) sp dp z)))))) = zW tc (setR S u (va_cpy (zR S t) (zR S u) sp dp z)) := zW_up hD hu hq12 rfl (wC_setR tc S _ huk (by decide))
  have c1 : (nI sp).toNatClampNeg = sp := nI_clamp (by omega)
  have c2 : (nI dp).toNatClampNeg = dp := nI_clamp (by omega)
  have c3 : (nI z).toNatClampNeg = z := nI_clamp (by omega)
  refine va_copyq hx hb (hml.trans hl.1.symm) hown (hts _ (hWG _ lk)) (hts _ (hWG _ wv_System_arraycopy)) (hts _ (hWG _ wt_System_arraycopy)) (hts _ (hWG _ wn_RJ10)) hG.1 hP hD hS q0 q1 3 3 (C := C) hq hq1 rfl rfl (nI_pos (by omega)) (nI_pos (by omega)) (nI_pos (by omega)) (by rw [c1, c3]; exact h1) (by rw [c2, c3]; exact h2) (fun i hi y hy => ?_) (vb_asgC (hG.2.2.2.2.1 _ hC)) hf (Nat.le_trans (Nat.add_le_add_left (by decide +kernel) _) hlo) d (fun H1 locs1 hP1 hD1 hS1 => ?_)
  · rw [c3] at hi
    rw [c1] at hy
    obtain ⟨hy1, hy2⟩ := hel i y hi hy
    obtain ⟨j, hj, -⟩ := zW_obj (tc := tc) (A := A) q hy1 hy2
    exact va_recv hG.1 hP q.1 hj
  · rw [c1, c2, c3, ← hN] at hP1 hD1
    exact kk H1 locs1 lsa (zP1_of e1 hP1) (zD1_of e1 hD1) hS1 hl
end
theorem ish1 : ∀ {M : Nat}, M < 1024 → nI M >>> (kI 1 &&& 31) = nI (M / 2) := by
  have key : ∀ M : Fin 1024, nI M.val >>> (kI 1 &&& 31) = nI (M.val / 2) := by decide +kernel
  exact fun {M} h => key ⟨M, h⟩
theorem mx_le {x y : Nat} (hx : x < 2 ^ 31) (hy : y < 2 ^ 31) : mxF (nI x) (nI y) = nI (if x < y then y else x) := by
  unfold mxF
  by_cases q : x < y
  · rw [if_pos q, if_pos ((nI_ltI hx hy).mpr q)]
  · rw [if_neg q, if_neg (fun z => q ((nI_ltI hx hy).mp z))]
theorem mn_le {x y : Nat} (hx : x < 2 ^ 31) (hy : y < 2 ^ 31) : mnF (nI x) (nI y) = nI (if y < x then y else x) := by
  unfold mnF
  by_cases q : y < x
  · rw [if_pos q, if_pos ((nI_ltI hy hx).mpr q)]
  · rw [if_neg q, if_neg (fun z => q ((nI_ltI hy hx).mp z))]
/-- how many places behind a growth -/
def gcap (M : Nat) : Nat := if M = 0 then 10 else M + (if 1 < M / 2 then M / 2 else 1)
theorem m_newLength {l : Launch} {D : va_G} {tc : Nat → ClassId} (hls : l.stackTraces = false) {M : Nat} {S : HS} {post : Option Value → HS → Prop} (h0 : 0 < M) (h1 : M < 1024) (hp : post (some (.int (nI (gcap M)))) S) : CM l D tc yJ8_newLength_cabcc cJ8_newLength_cabcc 4 (some .int) 1 0 0 [.int (nI M), .int (nI 1), .int (nI (M / 2))] S post := by
  refine CM.of hls (by decide +kernel) (by simp [Value.category]) (Nat.le_of_ble_eq_true rfl) (fun A0 p e9 s m args below meth c sz h hr hnm hA => ?_)
  refine V.blk h [(.iload_n 0, 1), (.iload_n 1, 1), (.iload_n 2, 1)] (by decide +kernel) (pc' := 3) (ls' := [some (.int (nI M)), some (.int (nI 1)), some (.int (nI (M / 2))), none]) (st' := [.int (nI (M / 2)), .int (nI 1), .int (nI M)]) rfl rfl (Nat.le_of_ble_eq_true rfl) ?_
  refine V.mmax h wm_RJ8_194 (mx_le (by omega) (by omega)) (by decide +kernel) (Nat.le_of_ble_eq_true rfl) (Nat.le_of_ble_eq_true rfl) (Nat.le_refl _) (Nat.le_refl _) ?_
  have hg : gcap M = M + (if 1 < M / 2 then M / 2 else 1) := if_neg (by omega)
  have hgl : gcap M ≤ M + M + 1 := by rw [hg]; split <;> omega
  refine V.blk h [(.iadd, 1), (.istore_n 3, 1), (.iconst 0, 1), (.iload_n 3, 1)] (by decide +kernel) (pc' := 10) (ls' := [some (.int (nI M)), some (.int (nI 1)), some (.int (nI (M / 2))), some (.int (nI M + nI (if 1 < M / 2 then M / 2 else 1)))]) (st' := [.int (nI M + nI (if 1 < M / 2 then M / 2 else 1)), .int (nI 0)]) rfl rfl (Nat.le_of_ble_eq_true rfl) ?_
  refine V.eq (ls' := [some (.int (nI M)), some (.int (nI 1)), some (.int (nI (M / 2))), some (.int (nI (gcap M)))]) (st' := [.int (nI (gcap M)), .int (nI 0)]) rfl (by rw [hg, nI_add]) (by rw [hg, nI_add]) ?_
  refine V.icmp_ge h (off := 11) (by decide +kernel) (tgt := 21) (by decide) (fun q => absurd ((nI_leI (by omega) (by omega)).mp q) (by rw [hg]; split <;> omega)) (fun _ => ?_)
  refine V.blk h [(.iload_n 3, 1)] (by decide +kernel) (pc' := 14) (ls' := [some (.int (nI M)), some (.int (nI 1)), some (.int (nI (M / 2))), some (.int (nI (gcap M)))]) (st' := [.int (nI (gcap M))]) rfl rfl (Nat.le_of_ble_eq_true rfl) ?_
  refine V.ldc h wo_248 (by decide +kernel) ?_
  refine V.icmp_gt h (off := 5) (by decide +kernel) (tgt := 21) (by decide) (fun q => absurd q ?_) (fun _ => ?_)
  · have e9 : (2147483639 : Int32) = nI 2147483639 := by decide
    rw [e9]
    exact fun q => absurd ((nI_ltI (by omega) (by omega)).mp q) (by omega)
  · refine V.blk h [(.iload_n 3, 1)] (by decide +kernel) (pc' := 20) (ls' := [some (.int (nI M)), some (.int (nI 1)), some (.int (nI (M / 2))), some (.int (nI (gcap M)))]) (st' := [.int (nI (gcap M))]) rfl rfl (Nat.le_of_ble_eq_true rfl) ?_
    exact V.iret h hA hr rfl hp (by decide +kernel) (Nat.le_refl _) (Nat.le_refl _)
/-- a longer array with what the old one holds -/
def cpA (S : HS) (t M q N : Nat) : HS := setR (newA S q 23 N) q (fun i => if i < M then zR S t i else none)
theorem cpA_is (S : HS) (t M q N : Nat) (hq : t ≠ q) : setR (newA S q 23 N) q (va_cpy (zR (newA S q 23 N) t) (zR (newA S q 23 N) q) 0 0 M) = cpA S t M q N := by
  unfold cpA
  congr 1
  funext i
  have e1 : zR (newA S q 23 N) t = zR S t := va_up_ne _ _ hq
  have e2 : zR (newA S q 23 N) q = fun _ => none := va_up_self _ _ _
  rw [e1, e2]
  unfold va_cpy
  by_cases z : i < M
  · rw [if_pos ⟨Nat.zero_le _, by omega⟩, if_pos z]
    congr 1
    omega
  · rw [if_neg (fun y => z (by omega)), if_neg z]
theorem m_copyOf3 {l : Launch} {D : va_G} {tc : Nat → ClassId} (hls : l.stackTraces = false) {ci NC : Nat} {C : String} {T : u_T} {ty : Nat → FieldType} (q : CLS ci C T NC ty) (hC : Cond.castable C "java/lang/Object" ∈ WK) {t M N : Nat} {S : HS} {post : Option Value → HS → Prop} (ht : t ∈ zL S) (hk : zK S t = 23) (hM : zN S t = M) (hMN : M ≤ N) (hN : N ≤ 2000) (hel : ∀ i y, i < M → zR S t i = some y → y ∈ zL S ∧ zK S y = ci) (hp : ∀ r, r ∉ zL S → post (some (.ref r)) (cpA S t M r N)) : CM l D tc yJ7_copyOf_6403c cJ7_copyOf_6403c 4 (some (.array (.object "java/lang/Object"))) 1 1 N [.ref t, .int (nI N), .ref (tc 101)] S post := by
  refine CM.of hls (by decide +kernel) (by simp [Value.category]) (Nat.le_of_ble_eq_true rfl) (fun A0 p e9 s m args below meth c sz h hr hnm hA => ?_)
  refine V.blk h [(.aload_n 2, 1)] (by decide +kernel) (pc' := 1) (ls' := [some (.ref t), some (.int (nI N)), some (.ref (tc 101)), none]) (st' := [.ref (tc 101)]) rfl rfl (Nat.le_of_ble_eq_true rfl) ?_
  refine V.ldcM h wl_RJ7_110 (by decide +kernel) ?_
  refine V.acmp_ne h (rx := some (tc 101)) (ry := some (tc 101)) (off := 10) (by decide +kernel) (tgt := 13) (by decide) (fun z => absurd rfl z) (fun _ => ?_)
  refine V.blk h [(.iload_n 1, 1)] (by decide +kernel) (pc' := 7) (ls' := [some (.ref t), some (.int (nI N)), some (.ref (tc 101)), none]) (st' := [.int (nI N)]) rfl rfl (Nat.le_of_ble_eq_true rfl) ?_
  refine V.anewarr h 23 (E := "java/lang/Object") (by decide) rfl h.2.2.2.2.2.1.2.2.2.1.2.2.2.2 wl_RJ7_2 (M := N) (by omega) (Nat.le_refl _) (by show 0 + N ≤ N; omega) (by decide +kernel) (fun r hr9 => ?_)
  have hne : t ≠ r := fun z => hr9 (z ▸ ht)
  refine V.goto h (off := 14) (by decide +kernel) (tgt := 24) (by decide) ?_
  refine V.blk h [(.astore_n 3, 1), (.aload_n 0, 1), (.iconst 0, 1), (.aload_n 3, 1), (.iconst 0, 1), (.aload_n 0, 1)] (by decide +kernel) (pc' := 30) (ls' := [some (.ref t), some (.int (nI N)), some (.ref (tc 101)), some (.ref r)]) (st' := [.ref t, .int (nI 0), .ref r, .int (nI 0), .ref t]) rfl rfl (Nat.le_of_ble_eq_true rfl) ?_
  have k1 : t ∈ zL (newA S r 23 N) := List.mem_append_left _ ht
  have k2 : zK (newA S r 23 N) t = 23 := (va_up_ne _ _ hne).trans hk
  have k3 : zN (newA S r 23 N) t = M := (va_up_ne _ _ hne).trans hM
  have k4 : r ∈ zL (newA S r 23 N) := List.mem_append_right _ (List.mem_singleton.mpr rfl)
  have k5 : zK (newA S r 23 N) r = 23 := va_up_self _ _ _
  have k6 : zN (newA S r 23 N) r = N := va_up_self _ _ _
  refine V.alen h 23 k1 k2 (by decide) k3 (by decide +kernel) ?_
  refine V.blk h [(.iload_n 1, 1)] (by decide +kernel) (pc' := 32) (ls' := [some (.ref t), some (.int (nI N)), some (.ref (tc 101)), some (.ref r)]) (st' := [.int (nI N), .int (nI M), .int (nI 0), .ref r, .int (nI 0), .ref t]) rfl rfl (Nat.le_of_ble_eq_true rfl) ?_
  refine V.mmin h wm_RJ7_304 (v := nI M) (by rw [mn_le (by omega) (by omega), if_neg (by omega)]) (by decide +kernel) (Nat.le_of_ble_eq_true rfl) (Nat.le_of_ble_eq_true rfl) (Nat.le_refl _) (by show 0 + N ≤ N; omega) ?_
  refine V.copyq h wm_RJ7_150 q hC (M := M) (N := N) k1 k2 k3 k4 k5 k6 (by omega) (by omega) (by omega) (by omega) (fun i y hi hy => ?_) (by decide +kernel) (Nat.le_of_ble_eq_true rfl) (Nat.le_of_ble_eq_true rfl) ?_
  · have e1 : zR (newA S r 23 N) t = zR S t := va_up_ne _ _ hne
    rw [e1, Nat.zero_add] at hy
    obtain ⟨a1, a2⟩ := hel i y hi hy
    have hy2 : y ≠ r := fun z => hr9 (z ▸ a1)
    exact ⟨List.mem_append_left _ a1, (va_up_ne _ _ hy2).trans a2⟩
  · refine V.eq (cpA_is S t M r N hne).symm rfl rfl ?_
    refine V.blk h [(.aload_n 3, 1)] (by decide +kernel) (pc' := 39) (ls' := [some (.ref t), some (.int (nI N)), some (.ref (tc 101)), some (.ref r)]) (st' := [.ref r]) rfl rfl (Nat.le_of_ble_eq_true rfl) ?_
    exact V.aret h hA hr (o := some r) (Or.inr ⟨_, rfl⟩) (hp r hr9) (by decide +kernel) (Nat.le_refl _) (by show 0 + N ≤ N; omega)
theorem m_copyOf2 {l : Launch} {D : va_G} {tc : Nat → ClassId} (hls : l.stackTraces = false) {ci NC : Nat} {C : String} {T : u_T} {ty : Nat → FieldType} (q : CLS ci C T NC ty) (hC : Cond.castable C "java/lang/Object" ∈ WK) {t M N : Nat} {S : HS} {post : Option Value → HS → Prop} (ht : t ∈ zL S) (hk : zK S t = 23) (hM : zN S t = M) (hMN : M ≤ N) (hN : N ≤ 2000) (hel : ∀ i y, i < M → zR S t i = some y → y ∈ zL S ∧ zK S y = ci) (hp : ∀ r, r ∉ zL S → post (some (.ref r)) (cpA S t M r N)) : CM l D tc yJ7_copyOf_1904c cJ7_copyOf_1904c 2 (some (.array (.object "java/lang/Object"))) 2 1 N [.ref t, .int (nI N)] S post := by
  refine CM.of hls (by decide +kernel) (by simp [Value.category]) (Nat.le_of_ble_eq_true rfl) (fun A0 p e9 s m args below meth c sz h hr hnm hA => ?_)
  refine V.blk h [(.aload_n 0, 1), (.iload_n 1, 1), (.aload_n 0, 1)] (by decide +kernel) (pc' := 3) (ls' := [some (.ref t), some (.int (nI N))]) (st' := [.ref t, .int (nI N), .ref t]) rfl rfl (Nat.le_of_ble_eq_true rfl) ?_
  refine V.getC h wm_RJ7_86 ht hk (by decide +kernel) (Nat.le_of_ble_eq_true rfl) (Nat.le_of_ble_eq_true rfl) ?_
  refine V.callS h (np := 3) (st := []) (m_copyOf3 hls q hC ht hk hM hMN hN hel (post := fun v S9 => ∃ r, r ∉ zL S ∧ v = some (.ref r) ∧ S9 = cpA S t M r N) (fun r h9 => ⟨r, h9, rfl, rfl⟩)) wc_J7_copyOf_6403c wn_RJ7 (Or.inl wm_RJ7_300) wt_J7_copyOf_6403c (by decide +kernel) rfl (Nat.le_of_ble_eq_true rfl) (Nat.le_of_ble_eq_true rfl) (Nat.le_refl _) (by show 0 + N ≤ N; omega) (by simp [Value.category]) (by decide +kernel) rfl (fun v S9 q9 => ?_)
  obtain ⟨r, h9, rfl, rfl⟩ := q9
  exact V.aret h hA hr (o := some r) (Or.inr ⟨_, rfl⟩) (hp r h9) (by decide +kernel) (Nat.le_refl _) (by show 0 + N ≤ N; omega)
