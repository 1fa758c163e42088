/-! ===== the reference's constructor ===== -/
/-- the state at first -/
def I0 : TS := (fun _ => 0, fun j _ => if j = 11 ∨ j = 32 ∨ j = 48 then 1 else 0, fun _ _ => 0, fun _ _ => false)
theorem I0_z {j i : Nat} (h : j ≠ 16) : mval I0 j i = 0 := by
  unfold mval
  by_cases h4 : mkind j = 4
  · rw [if_pos h4]; rfl
  · rw [if_neg h4]
    by_cases h3 : mkind j = 3
    · rw [if_pos h3]; rfl
    · rw [if_neg h3]
      by_cases h2 : mkind j = 2
      · rw [if_pos h2]
        have : j = 11 ∨ j = 32 ∨ j = 48 := by
          unfold mkind at h2
          split at h2
          · omega
          · (repeat' split at h2) <;> omega
        show oI (if j = 11 ∨ j = 32 ∨ j = 48 then 1 else 0) = 0
        rw [if_pos this]
        decide
      · rw [if_neg h2]
        have : ¬ (j = 11 ∨ j = 32 ∨ j = 48) := fun z => h2 (by unfold mkind; rw [if_pos (by omega)])
        show nI (if j = 11 ∨ j = 32 ∨ j = 48 then 1 else 0) = 0
        rw [if_neg this]
        decide
theorem I0_16 {i : Nat} : mval I0 16 i = kI (-1) := (mval_2 (A := I0) (j := 16) rfl).trans (oI_0.trans (by decide))
theorem I0_NB : NB 100 I0 := ⟨fun _ => Nat.zero_le _, fun j i => by show (if j = 11 ∨ j = 32 ∨ j = 48 then 1 else 0) ≤ 100; split <;> omega⟩
/-- the rows below j are laid -/
def MP (am : Nat) (ad : Nat → Nat) (j : Nat) (S : HS) : Prop :=
  am ∈ zL S ∧ zK S am = 11 ∧ (∀ x, (fty 11)[x]? = some true → zI S (704 + x) am = nI 0) ∧
  (∀ x, x < j → (fty 11)[x]? = some false → zP S (704 + x) am = some (ad x) ∧ ad x ∈ zL S ∧ zK S (ad x) = mak x ∧ zN S (ad x) = mlen x ∧ ∀ i, i < mlen x → zA S (ad x) i = mval I0 x i) ∧
  (∀ x y, x < j → y < j → (fty 11)[x]? = some false → (fty 11)[y]? = some false → ad x = ad y → x = y)
theorem MP.MW {am : Nat} {ad : Nat → Nat} {S : HS} (h : MP am ad 53 S) : MW am ad I0 S := by
  have hb : ∀ x, (fty 11)[x]? = some false → x < 53 := fun x hx => by
    have h1 := (List.getElem?_eq_some_iff.mp hx).1
    have h2 : (fty 11).length = 55 := rfl
    rcases Nat.lt_or_ge x 53 with q | q
    · exact q
    · exfalso
      have : x = 53 ∨ x = 54 := by omega
      rcases this with rfl | rfl <;> cases hx
  exact ⟨h.1, h.2.1, fun x hx => h.2.2.1 x hx, fun x hx => h.2.2.2.1 x (hb x hx) hx, fun x y hx hy q => h.2.2.2.2 x y (hb x hx) (hb y hy) hx hy q⟩
theorem MP.skip {am : Nat} {ad : Nat → Nat} {j j' : Nat} {S : HS} (h : MP am ad j S) (hs : ∀ x, x < j' → ¬ x < j → (fty 11)[x]? = some false → False) : MP am ad j' S := by
  have hb : ∀ x, x < j' → (fty 11)[x]? = some false → x < j := fun x hx hf => Decidable.byContradiction fun q => hs x hx q hf
  exact ⟨h.1, h.2.1, h.2.2.1, fun x hx hf => h.2.2.2.1 x (hb x hx hf) hf, fun x y hx hy a b q => h.2.2.2.2 x y (hb x hx a) (hb y hy b) a b q⟩
theorem MP.newA {am : Nat} {ad : Nat → Nat} {j : Nat} {S : HS} (h : MP am ad j S) {q ka M : Nat} (hq : q ∉ zL S) : MP am ad j (newA S q ka M) := by
  obtain ⟨h1, h2, h3, h4, h5⟩ := h
  have e : ∀ a, a ∈ zL S → a ≠ q := fun a ha z => hq (z ▸ ha)
  refine ⟨List.mem_append_left _ h1, ?_, h3, fun x hx hf => ?_, h5⟩
  · show va_up (zK S) q ka am = 11
    rw [va_up_ne _ _ (e am h1)]
    exact h2
  · obtain ⟨a1, a2, a3, a4, a5⟩ := h4 x hx hf
    refine ⟨a1, List.mem_append_left _ a2, ?_, ?_, fun i hi => ?_⟩
    · show va_up (zK S) q ka (ad x) = _
      rw [va_up_ne _ _ (e _ a2)]; exact a3
    · show va_up (zN S) q M (ad x) = _
      rw [va_up_ne _ _ (e _ a2)]; exact a4
    · show va_up (zA S) q (fun _ => 0) (ad x) i = _
      rw [va_up_ne _ _ (e _ a2)]; exact a5 i hi
theorem MP.setA {am : Nat} {ad : Nat → Nat} {j : Nat} {S : HS} (h : MP am ad j S) {q : Nat} {f : Nat → Int32} (hq : ∀ x, x < j → (fty 11)[x]? = some false → ad x ≠ q) : MP am ad j (setA S q f) := by
  obtain ⟨h1, h2, h3, h4, h5⟩ := h
  refine ⟨h1, h2, h3, fun x hx hf => ?_, h5⟩
  obtain ⟨a1, a2, a3, a4, a5⟩ := h4 x hx hf
  refine ⟨a1, a2, a3, a4, fun i hi => ?_⟩
  show va_up (zA S) q f (ad x) i = _
  rw [va_up_ne _ _ (hq x hx hf)]
  exact a5 i hi
theorem MP.put {am : Nat} {ad : Nat → Nat} {j : Nat} {S : HS} (h : MP am ad j S) (hj : (fty 11)[j]? = some false) {q : Nat} (hq1 : q ∈ zL S) (hq2 : zK S q = mak j) (hq3 : zN S q = mlen j) (hq4 : ∀ i, i < mlen j → zA S q i = mval I0 j i) (hq5 : ∀ x, x < j → (fty 11)[x]? = some false → ad x ≠ q) : MP am (fun x => if x = j then q else ad x) (j + 1) (setP S (64 * 11 + j) am (some q)) := by
  obtain ⟨h1, h2, h3, h4, h5⟩ := h
  refine ⟨h1, h2, h3, fun x hx hf => ?_, fun x y hx hy a b z => ?_⟩
  · show up2 (zP S) (64 * 11 + j) am (some q) (704 + x) am = _ ∧ (if x = j then q else ad x) ∈ zL S ∧ zK S (if x = j then q else ad x) = mak x ∧ zN S (if x = j then q else ad x) = mlen x ∧ ∀ i, i < mlen x → zA S (if x = j then q else ad x) i = mval I0 x i
    by_cases e : x = j
    · subst e
      simp only [if_true]
      exact ⟨if_pos ⟨by omega, rfl⟩, hq1, hq2, hq3, hq4⟩
    · simp only [e, if_false]
      obtain ⟨a1, a2, a3, a4, a5⟩ := h4 x (by omega) hf
      exact ⟨(if_neg (fun z => e (by omega))).trans a1, a2, a3, a4, a5⟩
  · have z' : (if x = j then q else ad x) = (if y = j then q else ad y) := z
    by_cases ex : x = j <;> by_cases ey : y = j
    · omega
    · rw [if_pos ex, if_neg ey] at z'
      exact absurd z'.symm (hq5 y (by omega) b)
    · rw [if_neg ex, if_pos ey] at z'
      exact absurd z' (hq5 x (by omega) a)
    · rw [if_neg ex, if_neg ey] at z'
      exact h5 x y (by omega) (by omega) a b z'
def VI (l : Launch) (D : va_G) (tc : Nat → ClassId) (A0 : Nat → Prop) (p : Program) (e : Env) (R : Room) (s : State) (m : MethodId) (args : Array Value) (below : List Frame) (meth : Method) (c : Code) (nL : Nat) (Q : State → Prop) (am : Nat) (ls : List (Option Value)) (j k n pc : Nat) : Prop :=
  ∀ S ad, MP am ad j S → V l D tc A0 p e R s m args below meth c nL Q S k n pc ls []
section
variable {l : Launch} {D : va_G} {tc : Nat → ClassId} {A0 : Nat → Prop} {p : Program} {e : Env} {R : Room} {s : State} {m : MethodId} {args : Array Value} {below : List Frame} {meth : Method} {c : Code} {nL : Nat} {Q : State → Prop} {am j k n pc : Nat} {ls : List (Option Value)} {cc : ByteArray} {Ts : List Cond}
theorem VI.skip {j' : Nat} (hs : ∀ x, x < j' → ¬ x < j → (fty 11)[x]? = some false → False) (kk : VI l D tc A0 p e R s m args below meth c nL Q am ls j' k n pc) : VI l D tc A0 p e R s m args below meth c nL Q am ls j k n pc := fun S ad h => kk S ad (h.skip hs)
theorem VI.row (h : CX l D tc A0 p s m args meth c cc nL RX11 Ts) (hin : meth.name = "<init>") (hj : (fty 11)[j]? = some false) (h16 : j ≠ 16) {M idx : Nat} (hM : mlen j = M) {aty : ArrayType} {fy : FieldType} (ka : Nat) (hmk : mak j = ka) (hka : (ka = 20 ∧ fy = .int) ∨ (ka = 21 ∧ fy = .boolean)) (hty : newarray.typeOf aty = fy) (hw : Cond.arrayClass fy ∈ WG) (hM2 : M ≤ 20000) (hk : k + 1 ≤ R.cells) (hn : n + M ≤ R.slots) (is : List (Instr × Nat)) (hd : decs cc pc is = true) (hx : exB is ls [] = some (ls, [.int (nI M), .ref am])) {pc1 : Nat} (hp : pc + lensum is = pc1) (hnl : ls.length ≤ nL) (d : decode cc pc1 = .ok (.newarray aty, 2)) (lk : Cond.fieldLink RX11 idx (TX11 j).1 (TX11 j).2.1 (TX11 j).2.2.1 ∈ WG) (hfin : (TX11 j).2.2.2 = true) (hdecl : (TX11 j).1 = RX11) (hnr : ∀ q : Nat, narrow (tyX11 j) (.ref q) = .ref q) (hf : ∀ q : Nat, fits (tyX11 j) (.ref q) = true) (d2 : decode cc (pc1 + 2) = .ok (.putfield idx, 3))
    (kk : VI l D tc A0 p e R s m args below meth c nL Q am ls (j + 1) (k + 1) (n + M) (pc1 + 5)) : VI l D tc A0 p e R s m args below meth c nL Q am ls j k n pc := by
  intro S ad hS
  refine V.blk h is hd hx hp hnl ?_
  refine V.newarr h ka hka hty hw hM2 hk hn d (fun q hq => ?_)
  have h1 := hS.newA (ka := ka) (M := M) hq
  have hne : ∀ x, x < j → (fty 11)[x]? = some false → ad x ≠ q := fun x hx2 hf2 z => hq (z ▸ (hS.2.2.2.1 x hx2 hf2).2.1)
  refine V.putPF (v := some q) h hin cls_11 hj h1.1 h1.2.1 lk hfin hdecl (hnr q) (hf q) d2 ?_
  refine kk _ _ (h1.put hj (List.mem_append_right _ List.mem_cons_self) ?_ ?_ (fun i hi => ?_) hne)
  · show va_up (zK S) q ka q = _
    rw [va_up_self, hmk]
  · show va_up (zN S) q M q = _
    rw [va_up_self, hM]
  · show va_up (zA S) q (fun _ => 0) q i = _
    rw [va_up_self, I0_z h16]
theorem V16s (h : CX l D tc A0 p s m args meth c cc nL RX11 Ts) {q i : Nat} {x : Int} {S2 : HS} (hi : i < 4) (hx : kI x = nI i) (a1 : q ∈ zL S2) (a2 : zK S2 q = 20) (a3 : zN S2 q = 4) (hs : decode cc (pc + 3) = .ok (.iastore, 1)) (hb : decs cc pc [(.dup, 1), (.iconst x, 1), (.iconst (-1), 1)] = true) (hnl : ls.length ≤ nL)
    (kv : V l D tc A0 p e R s m args below meth c nL Q (setA S2 q (upd (zA S2 q) i (kI (-1)))) k n (pc + 4) ls [.ref q, .ref am]) : V l D tc A0 p e R s m args below meth c nL Q S2 k n pc ls [.ref q, .ref am] := by
  refine V.blk h _ hb (pc' := pc + 3) (ls' := ls) (st' := [.int (kI (-1)), .int (kI x), .ref q, .ref q, .ref am]) rfl rfl hnl ?_
  rw [hx]
  exact V.iast h a1 a2 a3 hi (by decide) hs kv
theorem upd_at {f : Nat → Int32} {i j : Nat} {v : Int32} : upd f i v j = if j = i then v else f j := rfl
theorem zA_setA {S : HS} {q : Nat} {f : Nat → Int32} : zA (setA S q f) q = f := va_up_self _ _ _
def c16 (S : HS) (q : Nat) : HS := setA (setA (setA (setA S q (upd (zA S q) 0 (kI (-1)))) q (upd (zA (setA S q (upd (zA S q) 0 (kI (-1)))) q) 1 (kI (-1)))) q (upd (zA (setA (setA S q (upd (zA S q) 0 (kI (-1)))) q (upd (zA (setA S q (upd (zA S q) 0 (kI (-1)))) q) 1 (kI (-1)))) q) 2 (kI (-1)))) q (upd (zA (setA (setA (setA S q (upd (zA S q) 0 (kI (-1)))) q (upd (zA (setA S q (upd (zA S q) 0 (kI (-1)))) q) 1 (kI (-1)))) q (upd (zA (setA (setA S q (upd (zA S q) 0 (kI (-1)))) q (upd (zA (setA S q (upd (zA S q) 0 (kI (-1)))) q) 1 (kI (-1)))) q) 2 (kI (-1)))) q) 3 (kI (-1)))
theorem c16_A {S : HS} {q i : Nat} (hi : i < 4) : zA (c16 S q) q i = kI (-1) := by
  unfold c16
  rw [zA_setA, upd_at]
  split
  · rfl
  rw [zA_setA, upd_at]
  split
  · rfl
  rw [zA_setA, upd_at]
  split
  · rfl
  rw [zA_setA, upd_at]
  split
  · rfl
  omega
theorem c16_MP {ad : Nat → Nat} {S : HS} {q : Nat} (h : MP am ad 16 S) (hne : ∀ x, x < 16 → (fty 11)[x]? = some false → ad x ≠ q) : MP am ad 16 (c16 S q) := (((h.setA hne).setA hne).setA hne).setA hne
/-- the row of the clients' latest ones: four times NONE -/
theorem VI.row16 (h : CX l D tc A0 p s m args meth c cc nL RX11 Ts) (hin : meth.name = "<init>") {idx : Nat} (hw : Cond.arrayClass .int ∈ WG) (hk : k + 1 ≤ R.cells) (hn : n + 4 ≤ R.slots) (hd : decs cc pc [(.aload_n 0, 1), (.iconst 4, 1)] = true) (hx : exB [(.aload_n 0, 1), (.iconst 4, 1)] ls [] = some (ls, [.int (nI 4), .ref am])) (hnl : ls.length ≤ nL) (d : decode cc (pc + 2) = .ok (.newarray .int, 2))
    (b0 : decs cc (pc + 2 + 2) [(.dup, 1), (.iconst 0, 1), (.iconst (-1), 1)] = true) (s0 : decode cc (pc + 2 + 2 + 3) = .ok (.iastore, 1)) (b1 : decs cc (pc + 2 + 2 + 4) [(.dup, 1), (.iconst 1, 1), (.iconst (-1), 1)] = true) (s1 : decode cc (pc + 2 + 2 + 4 + 3) = .ok (.iastore, 1)) (b2 : decs cc (pc + 2 + 2 + 4 + 4) [(.dup, 1), (.iconst 2, 1), (.iconst (-1), 1)] = true) (s2 : decode cc (pc + 2 + 2 + 4 + 4 + 3) = .ok (.iastore, 1)) (b3 : decs cc (pc + 2 + 2 + 4 + 4 + 4) [(.dup, 1), (.iconst 3, 1), (.iconst (-1), 1)] = true) (s3 : decode cc (pc + 2 + 2 + 4 + 4 + 4 + 3) = .ok (.iastore, 1))
    (lk : Cond.fieldLink RX11 idx (TX11 16).1 (TX11 16).2.1 (TX11 16).2.2.1 ∈ WG) (d2 : decode cc (pc + 2 + 2 + 4 + 4 + 4 + 4) = .ok (.putfield idx, 3))
    (kk : VI l D tc A0 p e R s m args below meth c nL Q am ls 17 (k + 1) (n + 4) (pc + 2 + 2 + 4 + 4 + 4 + 4 + 3)) : VI l D tc A0 p e R s m args below meth c nL Q am ls 16 k n pc := by
  intro S ad hS
  refine V.blk h _ hd hx (pc' := pc + 2) rfl hnl ?_
  refine V.newarr h 20 (Or.inl ⟨rfl, rfl⟩) (atype := .int) rfl hw (by decide) hk hn d (fun q hq => ?_)
  have h1 := hS.newA (ka := 20) (M := 4) hq
  have hne : ∀ x, x < 16 → (fty 11)[x]? = some false → ad x ≠ q := fun x hx2 hf2 z => hq (z ▸ (hS.2.2.2.1 x hx2 hf2).2.1)
  have hm : q ∈ zL (newA S q 20 4) := List.mem_append_right _ List.mem_cons_self
  have hkq : zK (newA S q 20 4) q = 20 := va_up_self _ _ _
  have hnq : zN (newA S q 20 4) q = 4 := va_up_self _ _ _
  generalize newA S q 20 4 = S1 at *
  refine V16s h (i := 0) (by decide) (by decide) hm hkq hnq s0 b0 hnl ?_
  refine V16s h (i := 1) (by decide) (by decide) hm hkq hnq s1 b1 hnl ?_
  refine V16s h (i := 2) (by decide) (by decide) hm hkq hnq s2 b2 hnl ?_
  refine V16s h (i := 3) (by decide) (by decide) hm hkq hnq s3 b3 hnl ?_
  have h3 := c16_MP h1 hne
  have c1 : q ∈ zL (c16 S1 q) := hm
  have c2 : zK (c16 S1 q) q = 20 := hkq
  have c3 : zN (c16 S1 q) q = 4 := hnq
  have c4 : ∀ i, i < 4 → zA (c16 S1 q) q i = kI (-1) := fun i hi => c16_A hi
  refine V.eq (S' := c16 S1 q) rfl rfl rfl ?_
  generalize c16 S1 q = S2 at *
  refine V.putPF (v := some q) h hin cls_11 rfl h3.1 h3.2.1 lk rfl rfl rfl rfl d2 ?_
  exact kk _ _ (h3.put rfl c1 (c2.trans rfl) (c3.trans rfl) (fun i hi => (c4 i hi).trans I0_16.symm) hne)
end
def inA (x y z w : Int32) : TS := sf (sf (sf (sf I0 1 (nrF x 1 3)) 2 (nrF y 1 4)) 3 (nrF z 1 4)) 4 (nrF w 1 10)
def inF (x y z w : Int32) : TS := riF (inA x y z w) 0
theorem inA_NB (x y z w : Int32) : NB 100 (inA x y z w) := by
  have a := (nrF_le (x := x) (lo := 1) (hi := 3) (by decide) (by decide)).2
  have b := (nrF_le (x := y) (lo := 1) (hi := 4) (by decide) (by decide)).2
  have c := (nrF_le (x := z) (lo := 1) (hi := 4) (by decide) (by decide)).2
  have d := (nrF_le (x := w) (lo := 1) (hi := 10) (by decide) (by decide)).2
  exact (((I0_NB.sf (by omega)).sf (by omega)).sf (by omega)).sf (by omega)
set_option maxRecDepth 100000 in
set_option maxHeartbeats 4000000 in
theorem r_init {l : Launch} {D : va_G} {tc : Nat → ClassId} {am : Nat} (hls : l.stackTraces = false) (x y z w : Int32) (S : HS) (hS0 : MP am (fun _ => 0) 5 S) : CM l D tc yX11_init cX11_init 5 none 1 44 64607 [.ref am, .int x, .int y, .int z, .int w] S (fun v S' => v = none ∧ ∃ ad, MW am ad (inF x y z w) S') := by
  refine CM.of hls (by decide +kernel) (by simp [Value.category]) (Nat.le_of_ble_eq_true rfl) (fun A0 p e9 s m args below meth c sz h hr hnm hA => ?_)
  refine V.eq (ls' := [some (.ref am), some (.int x), some (.int y), some (.int z), some (.int w)]) rfl rfl rfl ?_
  refine V.blk h [(.aload_n 0, 1)] (by decide +kernel) (pc' := 1) (ls' := [some (.ref am), some (.int x), some (.int y), some (.int z), some (.int w)]) (st' := [.ref am]) rfl rfl (Nat.le_of_ble_eq_true rfl) ?_
  refine V.objInit h wm_RX11_7 wi_objectInit wc_objectInit (by decide +kernel) (by decide) (by decide) ?_
  refine (?_ : VI l D tc A0 p e9 (rmd 1 44 64607) s m args below meth c 5 (MQ below (zQ D tc _ S sz) args s 44 64607 (zAd S sz)) am [some (.ref am), some (.int x), some (.int y), some (.int z), some (.int w)] 5 0 0 4) S (fun _ => 0) hS0
  refine VI.row h hnm rfl (by decide) (M := 600) rfl 20 rfl (Or.inl ⟨rfl, rfl⟩) (aty := .int) (fy := .int) rfl wo_227 (by decide) (by decide) (by decide) [(.aload_n 0, 1), (.sipush 600, 3)] (by decide +kernel) rfl (pc1 := 8) rfl (Nat.le_of_ble_eq_true rfl) (by decide +kernel) wf_RX11_13 rfl rfl (fun _ => rfl) (fun _ => rfl) (by decide +kernel) ?_
  refine VI.row h hnm rfl (by decide) (M := 600) rfl 20 rfl (Or.inl ⟨rfl, rfl⟩) (aty := .int) (fy := .int) rfl wo_227 (by decide) (by decide) (by decide) [(.aload_n 0, 1), (.sipush 600, 3)] (by decide +kernel) rfl (pc1 := 17) rfl (Nat.le_of_ble_eq_true rfl) (by decide +kernel) wf_RX11_17 rfl rfl (fun _ => rfl) (fun _ => rfl) (by decide +kernel) ?_
  refine VI.row h hnm rfl (by decide) (M := 600) rfl 20 rfl (Or.inl ⟨rfl, rfl⟩) (aty := .int) (fy := .int) rfl wo_227 (by decide) (by decide) (by decide) [(.aload_n 0, 1), (.sipush 600, 3)] (by decide +kernel) rfl (pc1 := 26) rfl (Nat.le_of_ble_eq_true rfl) (by decide +kernel) wf_RX11_20 rfl rfl (fun _ => rfl) (fun _ => rfl) (by decide +kernel) ?_
  refine VI.row h hnm rfl (by decide) (M := 600) rfl 20 rfl (Or.inl ⟨rfl, rfl⟩) (aty := .int) (fy := .int) rfl wo_227 (by decide) (by decide) (by decide) [(.aload_n 0, 1), (.sipush 600, 3)] (by decide +kernel) rfl (pc1 := 35) rfl (Nat.le_of_ble_eq_true rfl) (by decide +kernel) wf_RX11_23 rfl rfl (fun _ => rfl) (fun _ => rfl) (by decide +kernel) ?_
  refine VI.row h hnm rfl (by decide) (M := 600) rfl 20 rfl (Or.inl ⟨rfl, rfl⟩) (aty := .int) (fy := .int) rfl wo_227 (by decide) (by decide) (by decide) [(.aload_n 0, 1), (.sipush 600, 3)] (by decide +kernel) rfl (pc1 := 44) rfl (Nat.le_of_ble_eq_true rfl) (by decide +kernel) wf_RX11_26 rfl rfl (fun _ => rfl) (fun _ => rfl) (by decide +kernel) ?_
  refine VI.row h hnm rfl (by decide) (M := 600) rfl 20 rfl (Or.inl ⟨rfl, rfl⟩) (aty := .int) (fy := .int) rfl wo_227 (by decide) (by decide) (by decide) [(.aload_n 0, 1), (.sipush 600, 3)] (by decide +kernel) rfl (pc1 := 53) rfl (Nat.le_of_ble_eq_true rfl) (by decide +kernel) wf_RX11_29 rfl rfl (fun _ => rfl) (fun _ => rfl) (by decide +kernel) ?_
  refine VI.row h hnm rfl (by decide) (M := 600) rfl 20 rfl (Or.inl ⟨rfl, rfl⟩) (aty := .int) (fy := .int) rfl wo_227 (by decide) (by decide) (by decide) [(.aload_n 0, 1), (.sipush 600, 3)] (by decide +kernel) rfl (pc1 := 62) rfl (Nat.le_of_ble_eq_true rfl) (by decide +kernel) wf_RX11_32 rfl rfl (fun _ => rfl) (fun _ => rfl) (by decide +kernel) ?_
  refine VI.row h hnm rfl (by decide) (M := 600) rfl 20 rfl (Or.inl ⟨rfl, rfl⟩) (aty := .int) (fy := .int) rfl wo_227 (by decide) (by decide) (by decide) [(.aload_n 0, 1), (.sipush 600, 3)] (by decide +kernel) rfl (pc1 := 71) rfl (Nat.le_of_ble_eq_true rfl) (by decide +kernel) wf_RX11_35 rfl rfl (fun _ => rfl) (fun _ => rfl) (by decide +kernel) ?_
  refine VI.skip (j' := 16) (fun x h1 h2 h3 => ?_) ?_
  · have h4 : x = 13 ∨ x = 14 ∨ x = 15 := by omega
    rcases h4 with rfl | rfl | rfl <;> cases h3
  refine VI.row16 h hnm (idx := 38) wo_227 (by decide) (by decide) (by decide +kernel) rfl (Nat.le_of_ble_eq_true rfl) (by decide +kernel) (by decide +kernel) (by decide +kernel) (by decide +kernel) (by decide +kernel) (by decide +kernel) (by decide +kernel) (by decide +kernel) (by decide +kernel) wf_RX11_38 (by decide +kernel) ?_
  refine VI.row h hnm rfl (by decide) (M := 4) rfl 20 rfl (Or.inl ⟨rfl, rfl⟩) (aty := .int) (fy := .int) rfl wo_227 (by decide) (by decide) (by decide) [(.aload_n 0, 1), (.iconst 4, 1)] (by decide +kernel) rfl (pc1 := 101) rfl (Nat.le_of_ble_eq_true rfl) (by decide +kernel) wf_RX11_41 rfl rfl (fun _ => rfl) (fun _ => rfl) (by decide +kernel) ?_
  refine VI.row h hnm rfl (by decide) (M := 4) rfl 20 rfl (Or.inl ⟨rfl, rfl⟩) (aty := .int) (fy := .int) rfl wo_227 (by decide) (by decide) (by decide) [(.aload_n 0, 1), (.iconst 4, 1)] (by decide +kernel) rfl (pc1 := 108) rfl (Nat.le_of_ble_eq_true rfl) (by decide +kernel) wf_RX11_44 rfl rfl (fun _ => rfl) (fun _ => rfl) (by decide +kernel) ?_
  refine VI.row h hnm rfl (by decide) (M := 4) rfl 21 rfl (Or.inr ⟨rfl, rfl⟩) (aty := .boolean) (fy := .boolean) rfl wo_1169 (by decide) (by decide) (by decide) [(.aload_n 0, 1), (.iconst 4, 1)] (by decide +kernel) rfl (pc1 := 115) rfl (Nat.le_of_ble_eq_true rfl) (by decide +kernel) wf_RX11_47 rfl rfl (fun _ => rfl) (fun _ => rfl) (by decide +kernel) ?_
  refine VI.row h hnm rfl (by decide) (M := 4) rfl 20 rfl (Or.inl ⟨rfl, rfl⟩) (aty := .int) (fy := .int) rfl wo_227 (by decide) (by decide) (by decide) [(.aload_n 0, 1), (.iconst 4, 1)] (by decide +kernel) rfl (pc1 := 122) rfl (Nat.le_of_ble_eq_true rfl) (by decide +kernel) wf_RX11_51 rfl rfl (fun _ => rfl) (fun _ => rfl) (by decide +kernel) ?_
  refine VI.row h hnm rfl (by decide) (M := 4) rfl 20 rfl (Or.inl ⟨rfl, rfl⟩) (aty := .int) (fy := .int) rfl wo_227 (by decide) (by decide) (by decide) [(.aload_n 0, 1), (.iconst 4, 1)] (by decide +kernel) rfl (pc1 := 129) rfl (Nat.le_of_ble_eq_true rfl) (by decide +kernel) wf_RX11_54 rfl rfl (fun _ => rfl) (fun _ => rfl) (by decide +kernel) ?_
  refine VI.row h hnm rfl (by decide) (M := 7200) rfl 20 rfl (Or.inl ⟨rfl, rfl⟩) (aty := .int) (fy := .int) rfl wo_227 (by decide) (by decide) (by decide) [(.aload_n 0, 1), (.sipush 7200, 3)] (by decide +kernel) rfl (pc1 := 138) rfl (Nat.le_of_ble_eq_true rfl) (by decide +kernel) wf_RX11_57 rfl rfl (fun _ => rfl) (fun _ => rfl) (by decide +kernel) ?_
  refine VI.row h hnm rfl (by decide) (M := 7200) rfl 20 rfl (Or.inl ⟨rfl, rfl⟩) (aty := .int) (fy := .int) rfl wo_227 (by decide) (by decide) (by decide) [(.aload_n 0, 1), (.sipush 7200, 3)] (by decide +kernel) rfl (pc1 := 147) rfl (Nat.le_of_ble_eq_true rfl) (by decide +kernel) wf_RX11_60 rfl rfl (fun _ => rfl) (fun _ => rfl) (by decide +kernel) ?_
  refine VI.row h hnm rfl (by decide) (M := 7200) rfl 21 rfl (Or.inr ⟨rfl, rfl⟩) (aty := .boolean) (fy := .boolean) rfl wo_1169 (by decide) (by decide) (by decide) [(.aload_n 0, 1), (.sipush 7200, 3)] (by decide +kernel) rfl (pc1 := 156) rfl (Nat.le_of_ble_eq_true rfl) (by decide +kernel) wf_RX11_63 rfl rfl (fun _ => rfl) (fun _ => rfl) (by decide +kernel) ?_
  refine VI.row h hnm rfl (by decide) (M := 7200) rfl 21 rfl (Or.inr ⟨rfl, rfl⟩) (aty := .boolean) (fy := .boolean) rfl wo_1169 (by decide) (by decide) (by decide) [(.aload_n 0, 1), (.sipush 7200, 3)] (by decide +kernel) rfl (pc1 := 165) rfl (Nat.le_of_ble_eq_true rfl) (by decide +kernel) wf_RX11_66 rfl rfl (fun _ => rfl) (fun _ => rfl) (by decide +kernel) ?_
  refine VI.row h hnm rfl (by decide) (M := 12) rfl 20 rfl (Or.inl ⟨rfl, rfl⟩) (aty := .int) (fy := .int) rfl wo_227 (by decide) (by decide) (by decide) [(.aload_n 0, 1), (.bipush 12, 2)] (by decide +kernel) rfl (pc1 := 173) rfl (Nat.le_of_ble_eq_true rfl) (by decide +kernel) wf_RX11_69 rfl rfl (fun _ => rfl) (fun _ => rfl) (by decide +kernel) ?_
  refine VI.row h hnm rfl (by decide) (M := 12) rfl 20 rfl (Or.inl ⟨rfl, rfl⟩) (aty := .int) (fy := .int) rfl wo_227 (by decide) (by decide) (by decide) [(.aload_n 0, 1), (.bipush 12, 2)] (by decide +kernel) rfl (pc1 := 181) rfl (Nat.le_of_ble_eq_true rfl) (by decide +kernel) wf_RX11_72 rfl rfl (fun _ => rfl) (fun _ => rfl) (by decide +kernel) ?_
  refine VI.row h hnm rfl (by decide) (M := 12) rfl 20 rfl (Or.inl ⟨rfl, rfl⟩) (aty := .int) (fy := .int) rfl wo_227 (by decide) (by decide) (by decide) [(.aload_n 0, 1), (.bipush 12, 2)] (by decide +kernel) rfl (pc1 := 189) rfl (Nat.le_of_ble_eq_true rfl) (by decide +kernel) wf_RX11_75 rfl rfl (fun _ => rfl) (fun _ => rfl) (by decide +kernel) ?_
  refine VI.row h hnm rfl (by decide) (M := 12) rfl 20 rfl (Or.inl ⟨rfl, rfl⟩) (aty := .int) (fy := .int) rfl wo_227 (by decide) (by decide) (by decide) [(.aload_n 0, 1), (.bipush 12, 2)] (by decide +kernel) rfl (pc1 := 197) rfl (Nat.le_of_ble_eq_true rfl) (by decide +kernel) wf_RX11_78 rfl rfl (fun _ => rfl) (fun _ => rfl) (by decide +kernel) ?_
  refine VI.row h hnm rfl (by decide) (M := 12) rfl 21 rfl (Or.inr ⟨rfl, rfl⟩) (aty := .boolean) (fy := .boolean) rfl wo_1169 (by decide) (by decide) (by decide) [(.aload_n 0, 1), (.bipush 12, 2)] (by decide +kernel) rfl (pc1 := 205) rfl (Nat.le_of_ble_eq_true rfl) (by decide +kernel) wf_RX11_81 rfl rfl (fun _ => rfl) (fun _ => rfl) (by decide +kernel) ?_
  refine VI.row h hnm rfl (by decide) (M := 12) rfl 21 rfl (Or.inr ⟨rfl, rfl⟩) (aty := .boolean) (fy := .boolean) rfl wo_1169 (by decide) (by decide) (by decide) [(.aload_n 0, 1), (.bipush 12, 2)] (by decide +kernel) rfl (pc1 := 213) rfl (Nat.le_of_ble_eq_true rfl) (by decide +kernel) wf_RX11_84 rfl rfl (fun _ => rfl) (fun _ => rfl) (by decide +kernel) ?_
  refine VI.row h hnm rfl (by decide) (M := 36) rfl 20 rfl (Or.inl ⟨rfl, rfl⟩) (aty := .int) (fy := .int) rfl wo_227 (by decide) (by decide) (by decide) [(.aload_n 0, 1), (.bipush 36, 2)] (by decide +kernel) rfl (pc1 := 221) rfl (Nat.le_of_ble_eq_true rfl) (by decide +kernel) wf_RX11_87 rfl rfl (fun _ => rfl) (fun _ => rfl) (by decide +kernel) ?_
  refine VI.row h hnm rfl (by decide) (M := 7200) rfl 20 rfl (Or.inl ⟨rfl, rfl⟩) (aty := .int) (fy := .int) rfl wo_227 (by decide) (by decide) (by decide) [(.aload_n 0, 1), (.sipush 7200, 3)] (by decide +kernel) rfl (pc1 := 230) rfl (Nat.le_of_ble_eq_true rfl) (by decide +kernel) wf_RX11_90 rfl rfl (fun _ => rfl) (fun _ => rfl) (by decide +kernel) ?_
  refine VI.row h hnm rfl (by decide) (M := 7200) rfl 20 rfl (Or.inl ⟨rfl, rfl⟩) (aty := .int) (fy := .int) rfl wo_227 (by decide) (by decide) (by decide) [(.aload_n 0, 1), (.sipush 7200, 3)] (by decide +kernel) rfl (pc1 := 239) rfl (Nat.le_of_ble_eq_true rfl) (by decide +kernel) wf_RX11_93 rfl rfl (fun _ => rfl) (fun _ => rfl) (by decide +kernel) ?_
  refine VI.row h hnm rfl (by decide) (M := 7200) rfl 20 rfl (Or.inl ⟨rfl, rfl⟩) (aty := .int) (fy := .int) rfl wo_227 (by decide) (by decide) (by decide) [(.aload_n 0, 1), (.sipush 7200, 3)] (by decide +kernel) rfl (pc1 := 248) rfl (Nat.le_of_ble_eq_true rfl) (by decide +kernel) wf_RX11_96 rfl rfl (fun _ => rfl) (fun _ => rfl) (by decide +kernel) ?_
  refine VI.row h hnm rfl (by decide) (M := 7200) rfl 20 rfl (Or.inl ⟨rfl, rfl⟩) (aty := .int) (fy := .int) rfl wo_227 (by decide) (by decide) (by decide) [(.aload_n 0, 1), (.sipush 7200, 3)] (by decide +kernel) rfl (pc1 := 257) rfl (Nat.le_of_ble_eq_true rfl) (by decide +kernel) wf_RX11_99 rfl rfl (fun _ => rfl) (fun _ => rfl) (by decide +kernel) ?_
  refine VI.row h hnm rfl (by decide) (M := 12) rfl 20 rfl (Or.inl ⟨rfl, rfl⟩) (aty := .int) (fy := .int) rfl wo_227 (by decide) (by decide) (by decide) [(.aload_n 0, 1), (.bipush 12, 2)] (by decide +kernel) rfl (pc1 := 265) rfl (Nat.le_of_ble_eq_true rfl) (by decide +kernel) wf_RX11_102 rfl rfl (fun _ => rfl) (fun _ => rfl) (by decide +kernel) ?_
  refine VI.skip (j' := 39) (fun x h1 h2 h3 => ?_) ?_
  · have h4 : x = 38 := by omega
    rcases h4 with rfl <;> cases h3
  refine VI.row h hnm rfl (by decide) (M := 3) rfl 20 rfl (Or.inl ⟨rfl, rfl⟩) (aty := .int) (fy := .int) rfl wo_227 (by decide) (by decide) (by decide) [(.aload_n 0, 1), (.iconst 3, 1)] (by decide +kernel) rfl (pc1 := 272) rfl (Nat.le_of_ble_eq_true rfl) (by decide +kernel) wf_RX11_105 rfl rfl (fun _ => rfl) (fun _ => rfl) (by decide +kernel) ?_
  refine VI.row h hnm rfl (by decide) (M := 3) rfl 20 rfl (Or.inl ⟨rfl, rfl⟩) (aty := .int) (fy := .int) rfl wo_227 (by decide) (by decide) (by decide) [(.aload_n 0, 1), (.iconst 3, 1)] (by decide +kernel) rfl (pc1 := 279) rfl (Nat.le_of_ble_eq_true rfl) (by decide +kernel) wf_RX11_108 rfl rfl (fun _ => rfl) (fun _ => rfl) (by decide +kernel) ?_
  refine VI.row h hnm rfl (by decide) (M := 3) rfl 20 rfl (Or.inl ⟨rfl, rfl⟩) (aty := .int) (fy := .int) rfl wo_227 (by decide) (by decide) (by decide) [(.aload_n 0, 1), (.iconst 3, 1)] (by decide +kernel) rfl (pc1 := 286) rfl (Nat.le_of_ble_eq_true rfl) (by decide +kernel) wf_RX11_111 rfl rfl (fun _ => rfl) (fun _ => rfl) (by decide +kernel) ?_
  refine VI.row h hnm rfl (by decide) (M := 3) rfl 21 rfl (Or.inr ⟨rfl, rfl⟩) (aty := .boolean) (fy := .boolean) rfl wo_1169 (by decide) (by decide) (by decide) [(.aload_n 0, 1), (.iconst 3, 1)] (by decide +kernel) rfl (pc1 := 293) rfl (Nat.le_of_ble_eq_true rfl) (by decide +kernel) wf_RX11_114 rfl rfl (fun _ => rfl) (fun _ => rfl) (by decide +kernel) ?_
  refine VI.row h hnm rfl (by decide) (M := 48) rfl 20 rfl (Or.inl ⟨rfl, rfl⟩) (aty := .int) (fy := .int) rfl wo_227 (by decide) (by decide) (by decide) [(.aload_n 0, 1), (.bipush 48, 2)] (by decide +kernel) rfl (pc1 := 301) rfl (Nat.le_of_ble_eq_true rfl) (by decide +kernel) wf_RX11_117 rfl rfl (fun _ => rfl) (fun _ => rfl) (by decide +kernel) ?_
  refine VI.row h hnm rfl (by decide) (M := 3) rfl 20 rfl (Or.inl ⟨rfl, rfl⟩) (aty := .int) (fy := .int) rfl wo_227 (by decide) (by decide) (by decide) [(.aload_n 0, 1), (.iconst 3, 1)] (by decide +kernel) rfl (pc1 := 308) rfl (Nat.le_of_ble_eq_true rfl) (by decide +kernel) wf_RX11_120 rfl rfl (fun _ => rfl) (fun _ => rfl) (by decide +kernel) ?_
  refine VI.row h hnm rfl (by decide) (M := 250) rfl 20 rfl (Or.inl ⟨rfl, rfl⟩) (aty := .int) (fy := .int) rfl wo_227 (by decide) (by decide) (by decide) [(.aload_n 0, 1), (.sipush 250, 3)] (by decide +kernel) rfl (pc1 := 317) rfl (Nat.le_of_ble_eq_true rfl) (by decide +kernel) wf_RX11_123 rfl rfl (fun _ => rfl) (fun _ => rfl) (by decide +kernel) ?_
  refine VI.row h hnm rfl (by decide) (M := 250) rfl 20 rfl (Or.inl ⟨rfl, rfl⟩) (aty := .int) (fy := .int) rfl wo_227 (by decide) (by decide) (by decide) [(.aload_n 0, 1), (.sipush 250, 3)] (by decide +kernel) rfl (pc1 := 326) rfl (Nat.le_of_ble_eq_true rfl) (by decide +kernel) wf_RX11_126 rfl rfl (fun _ => rfl) (fun _ => rfl) (by decide +kernel) ?_
  refine VI.row h hnm rfl (by decide) (M := 250) rfl 20 rfl (Or.inl ⟨rfl, rfl⟩) (aty := .int) (fy := .int) rfl wo_227 (by decide) (by decide) (by decide) [(.aload_n 0, 1), (.sipush 250, 3)] (by decide +kernel) rfl (pc1 := 335) rfl (Nat.le_of_ble_eq_true rfl) (by decide +kernel) wf_RX11_129 rfl rfl (fun _ => rfl) (fun _ => rfl) (by decide +kernel) ?_
  refine VI.row h hnm rfl (by decide) (M := 250) rfl 20 rfl (Or.inl ⟨rfl, rfl⟩) (aty := .int) (fy := .int) rfl wo_227 (by decide) (by decide) (by decide) [(.aload_n 0, 1), (.sipush 250, 3)] (by decide +kernel) rfl (pc1 := 344) rfl (Nat.le_of_ble_eq_true rfl) (by decide +kernel) wf_RX11_132 rfl rfl (fun _ => rfl) (fun _ => rfl) (by decide +kernel) ?_
  refine VI.row h hnm rfl (by decide) (M := 250) rfl 20 rfl (Or.inl ⟨rfl, rfl⟩) (aty := .int) (fy := .int) rfl wo_227 (by decide) (by decide) (by decide) [(.aload_n 0, 1), (.sipush 250, 3)] (by decide +kernel) rfl (pc1 := 353) rfl (Nat.le_of_ble_eq_true rfl) (by decide +kernel) wf_RX11_135 rfl rfl (fun _ => rfl) (fun _ => rfl) (by decide +kernel) ?_
  refine VI.row h hnm rfl (by decide) (M := 250) rfl 20 rfl (Or.inl ⟨rfl, rfl⟩) (aty := .int) (fy := .int) rfl wo_227 (by decide) (by decide) (by decide) [(.aload_n 0, 1), (.sipush 250, 3)] (by decide +kernel) rfl (pc1 := 362) rfl (Nat.le_of_ble_eq_true rfl) (by decide +kernel) wf_RX11_138 rfl rfl (fun _ => rfl) (fun _ => rfl) (by decide +kernel) ?_
  refine VI.row h hnm rfl (by decide) (M := 250) rfl 20 rfl (Or.inl ⟨rfl, rfl⟩) (aty := .int) (fy := .int) rfl wo_227 (by decide) (by decide) (by decide) [(.aload_n 0, 1), (.sipush 250, 3)] (by decide +kernel) rfl (pc1 := 371) rfl (Nat.le_of_ble_eq_true rfl) (by decide +kernel) wf_RX11_141 rfl rfl (fun _ => rfl) (fun _ => rfl) (by decide +kernel) ?_
  refine VI.row h hnm rfl (by decide) (M := 250) rfl 21 rfl (Or.inr ⟨rfl, rfl⟩) (aty := .boolean) (fy := .boolean) rfl wo_1169 (by decide) (by decide) (by decide) [(.aload_n 0, 1), (.sipush 250, 3)] (by decide +kernel) rfl (pc1 := 380) rfl (Nat.le_of_ble_eq_true rfl) (by decide +kernel) wf_RX11_144 rfl rfl (fun _ => rfl) (fun _ => rfl) (by decide +kernel) ?_
  intro S1 ad1 hS1
  have hM := hS1.MW
  refine V.blk h [(.aload_n 0, 1), (.iload_n 1, 1), (.iconst 1, 1), (.iconst 3, 1)] (by decide +kernel) (pc' := 389) (ls' := [some (.ref am), some (.int x), some (.int y), some (.int z), some (.int w)]) (st' := [.int (nI 3), .int (nI 1), .int x, .ref am]) rfl rfl (Nat.le_of_ble_eq_true rfl) ?_
  refine V.callS h (np := 3) (st := [.ref am]) (r_near hls I0 x 1 3 (by decide) S1 hM) wc_X11_near wn_RX11 (Or.inl wm_RX11_147) wt_X11_near (by decide +kernel) rfl (by decide) (by decide) (by decide) (by decide) (by simp [Value.category]) (by decide +kernel) rfl (fun v0 S2 q0 => ?_)
  obtain ⟨rfl, hN0⟩ := q0
  refine V.putIF h hnm cls_11 (j := 1) rfl hN0.1 hN0.2.1 wf_RX11_151 rfl rfl rfl rfl (by decide +kernel) ?_
  have hP0 := hN0.setf (j := 1) (v := nrF x 1 3) rfl
  generalize setI S2 (64 * 11 + 1) am (nI (nrF x 1 3)) = T0 at *
  refine V.blk h [(.aload_n 0, 1), (.iload_n 2, 1), (.iconst 1, 1), (.iconst 4, 1)] (by decide +kernel) (pc' := 399) (ls' := [some (.ref am), some (.int x), some (.int y), some (.int z), some (.int w)]) (st' := [.int (nI 4), .int (nI 1), .int y, .ref am]) rfl rfl (Nat.le_of_ble_eq_true rfl) ?_
  refine V.callS h (np := 3) (st := [.ref am]) (r_near hls (sf I0 1 (nrF x 1 3)) y 1 4 (by decide) T0 hP0) wc_X11_near wn_RX11 (Or.inl wm_RX11_147) wt_X11_near (by decide +kernel) rfl (by decide) (by decide) (by decide) (by decide) (by simp [Value.category]) (by decide +kernel) rfl (fun v1 S3 q1 => ?_)
  obtain ⟨rfl, hN1⟩ := q1
  refine V.putIF h hnm cls_11 (j := 2) rfl hN1.1 hN1.2.1 wf_RX11_154 rfl rfl rfl rfl (by decide +kernel) ?_
  have hP1 := hN1.setf (j := 2) (v := nrF y 1 4) rfl
  generalize setI S3 (64 * 11 + 2) am (nI (nrF y 1 4)) = T1 at *
  refine V.blk h [(.aload_n 0, 1), (.iload_n 3, 1), (.iconst 1, 1), (.iconst 4, 1)] (by decide +kernel) (pc' := 409) (ls' := [some (.ref am), some (.int x), some (.int y), some (.int z), some (.int w)]) (st' := [.int (nI 4), .int (nI 1), .int z, .ref am]) rfl rfl (Nat.le_of_ble_eq_true rfl) ?_
  refine V.callS h (np := 3) (st := [.ref am]) (r_near hls (sf (sf I0 1 (nrF x 1 3)) 2 (nrF y 1 4)) z 1 4 (by decide) T1 hP1) wc_X11_near wn_RX11 (Or.inl wm_RX11_147) wt_X11_near (by decide +kernel) rfl (by decide) (by decide) (by decide) (by decide) (by simp [Value.category]) (by decide +kernel) rfl (fun v2 S4 q2 => ?_)
  obtain ⟨rfl, hN2⟩ := q2
  refine V.putIF h hnm cls_11 (j := 3) rfl hN2.1 hN2.2.1 wf_RX11_157 rfl rfl rfl rfl (by decide +kernel) ?_
  have hP2 := hN2.setf (j := 3) (v := nrF z 1 4) rfl
  generalize setI S4 (64 * 11 + 3) am (nI (nrF z 1 4)) = T2 at *
  refine V.blk h [(.aload_n 0, 1), (.iload 4, 2), (.iconst 1, 1), (.bipush 10, 2)] (by decide +kernel) (pc' := 421) (ls' := [some (.ref am), some (.int x), some (.int y), some (.int z), some (.int w)]) (st' := [.int (nI 10), .int (nI 1), .int w, .ref am]) rfl rfl (Nat.le_of_ble_eq_true rfl) ?_
  refine V.callS h (np := 3) (st := [.ref am]) (r_near hls (sf (sf (sf I0 1 (nrF x 1 3)) 2 (nrF y 1 4)) 3 (nrF z 1 4)) w 1 10 (by decide) T2 hP2) wc_X11_near wn_RX11 (Or.inl wm_RX11_147) wt_X11_near (by decide +kernel) rfl (by decide) (by decide) (by decide) (by decide) (by simp [Value.category]) (by decide +kernel) rfl (fun v3 S5 q3 => ?_)
  obtain ⟨rfl, hN3⟩ := q3
  refine V.putIF h hnm cls_11 (j := 4) rfl hN3.1 hN3.2.1 wf_RX11_160 rfl rfl rfl rfl (by decide +kernel) ?_
  have hP3 := hN3.setf (j := 4) (v := nrF w 1 10) rfl
  generalize setI S5 (64 * 11 + 4) am (nI (nrF w 1 10)) = T3 at *
  refine V.blk h [(.aload_n 0, 1), (.iconst 0, 1)] (by decide +kernel) (pc' := 429) (ls' := [some (.ref am), some (.int x), some (.int y), some (.int z), some (.int w)]) (st' := [.int (nI 0), .ref am]) rfl rfl (Nat.le_of_ble_eq_true rfl) ?_
  refine V.callV h (np := 1) (st := []) (r_rises hls (inA x y z w) 0 100 (by decide) (inA_NB x y z w) (by decide) T3 hP3) wc_X11_rises wn_RX11 (Or.inl wm_RX11_163) wi_X11_rises we_X11_rises (by decide +kernel) rfl cls_11 hP3.1 hP3.2.1 (by decide) (by decide) (by decide) (by decide) (by simp [Value.category]) (by decide +kernel) rfl (fun v9 S9 q9 => ?_)
  obtain ⟨rfl, hR⟩ := q9
  exact V.vret h hA hr ⟨rfl, ad1, hR⟩ (by decide +kernel) (by decide) (by decide)
