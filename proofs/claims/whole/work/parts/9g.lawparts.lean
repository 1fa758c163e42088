/-! ===== the law: two parts of a heap, the reference's and the class's ===== -/
def sameAt (S S' : HS) (x : Nat) : Prop := zK S' x = zK S x ∧ zN S' x = zN S x ∧ zA S' x = zA S x ∧ zR S' x = zR S x ∧ zJ S' x = zJ S x ∧ ∀ g, zI S' g x = zI S g x ∧ zP S' g x = zP S g x
theorem jn_at_in {S T : HS} {L L' : List Nat} {x : Nat} (h : x ∈ L) : sameAt S (zSub (jn L S T) L') x := ⟨if_pos h, if_pos h, if_pos h, if_pos h, if_pos h, fun _ => ⟨if_pos h, if_pos h⟩⟩
theorem jn_at_out {S T : HS} {L L' : List Nat} {x : Nat} (h : x ∉ L) : sameAt T (zSub (jn L S T) L') x := ⟨if_neg h, if_neg h, if_neg h, if_neg h, if_neg h, fun _ => ⟨if_neg h, if_neg h⟩⟩
theorem nd_app {L M : List Nat} (h : nd (L ++ M)) : nd L ∧ nd M ∧ ∀ a, a ∈ L → a ∉ M := by
  have q := List.nodup_append.mp ((nd_iff _).mp h)
  exact ⟨(nd_iff _).mpr q.1, (nd_iff _).mpr q.2.1, fun a ha hb => q.2.2 a ha a hb rfl⟩
theorem RA.at' {tc : Nat → ClassId} {a : Nat → Nat → Nat} {A : TS} {S S' : HS} (h : RA tc a A S) (hx : ∀ x, x ∈ zL S → x ∈ zL S' ∧ sameAt S S' x) : RA tc a A S' := h.ext2 (fun x hxl _ => by
  obtain ⟨h0, h1, h2, h3, h4, h5, h6⟩ := hx x hxl
  exact ⟨h0, h1, h2, h3, h4, h6⟩)
theorem MW.at' {am : Nat} {ad : Nat → Nat} {A : TS} {S S' : HS} (h : MW am ad A S) (hx : ∀ x, x ∈ zL S → x ∈ zL S' ∧ sameAt S S' x) : MW am ad A S' := h.ext (fun x hxl => by
  obtain ⟨h0, h1, h2, h3, h4, h5, h6⟩ := hx x hxl
  exact ⟨h0, h1, h2, h3, h6⟩)
theorem OU.at' {o : Nat} {S S' : HS} {v : Int64} (h : OU o S v) (hx : o ∈ zL S' ∧ sameAt S S' o) : OU o S' v := by
  obtain ⟨h0, h1, h2, h3, h4, h5, h6⟩ := hx
  exact ⟨h0, h1.trans h.2.1, h2.trans h.2.2.1, by rw [h5]; exact h.2.2.2⟩
/-- the reference's part Lm shows X, the class's part Lc shows Y; the row of longs at o holds yv -/
def LJ (tc : Nat → ClassId) (am : Nat) (ad : Nat → Nat) (q0 o : Nat) (X Y : TS) (yv : Int64) (S : HS) (Lm Lc : List Nat) : Prop :=
  (∀ a, a ∈ Lm → a ∈ zL S) ∧ (∀ a, a ∈ Lc → a ∈ zL S) ∧ nd Lm ∧ nd Lc ∧ (∀ a, a ∈ Lm → a ∉ Lc) ∧ MW am ad X (zSub S Lm) ∧ (∃ ax ay, ax 10 0 = q0 ∧ RA tc (mx ax ay) Y (zSub S Lc)) ∧ OU o (zSub S Lc) yv
section
variable {l : Launch} {D : va_G} {tc : Nat → ClassId} {A : Nat → Prop} {p : Program} {e : Env} {R : Room} {s : State} {m : MethodId} {args : Array Value} {below : List Frame} {meth : Method} {c : Code} {nL : Nat} {Q : State → Prop} {S : HS} {k n : Nat} {pc : Nat} {ls : List (Option Value)} {st : List Value} {cc : ByteArray} {own : String} {Ts : List Cond} {am q0 o : Nat} {ad : Nat → Nat} {X X' Y Y' : TS} {yv yv' : Int64} {Lm Lc : List Nat}
theorem LJ.mod {S' : HS} (hJ : LJ tc am ad q0 o X Y yv S Lm Lc) (hM : MW am ad X' S') (hn : nd (Lc ++ zL S')) : LJ tc am ad q0 o X' Y yv (jn Lc S S') (zL S') Lc := by
  obtain ⟨sm, sc, nm, nc, dj, -, ⟨ax, ay, hq, hR⟩, hO⟩ := hJ
  obtain ⟨n1, n2, n3⟩ := nd_app hn
  refine ⟨fun a ha => List.mem_append_right _ ha, fun a ha => List.mem_append_left _ ha, n2, n1, fun a ha hb => n3 a hb ha, hM.at' (fun x hx => ⟨hx, jn_at_out (fun z => n3 x z hx)⟩), ⟨ax, ay, hq, hR.at' (fun x hx => ⟨hx, jn_at_in (S := S) hx⟩)⟩, hO.at' ⟨hO.1, jn_at_in (S := S) hO.1⟩⟩
theorem LJ.cls {S' : HS} (hJ : LJ tc am ad q0 o X Y yv S Lm Lc) (hR : ∃ ax ay, ax 10 0 = q0 ∧ RA tc (mx ax ay) Y' S') (hO : OU o S' yv') (hn : nd (Lm ++ zL S')) : LJ tc am ad q0 o X Y' yv' (jn Lm S S') Lm (zL S') := by
  obtain ⟨sm, sc, nm, nc, dj, hM, -, -⟩ := hJ
  obtain ⟨ax, ay, hq, hR⟩ := hR
  obtain ⟨n1, n2, n3⟩ := nd_app hn
  refine ⟨fun a ha => List.mem_append_left _ ha, fun a ha => List.mem_append_right _ ha, n1, n2, n3, hM.at' (fun x hx => ⟨hx, jn_at_in (S := S) hx⟩), ⟨ax, ay, hq, hR.at' (fun x hx => ⟨hx, jn_at_out (fun z => n3 x z hx)⟩)⟩, hO.at' ⟨hO.1, jn_at_out (fun z => n3 o z hO.1)⟩⟩
theorem LJ.mono {X2 Y2 : TS} (hJ : LJ tc am ad q0 o X Y yv S Lm Lc) (hx : EQ X X2) (hy : AG Y2 Y) : LJ tc am ad q0 o X2 Y2 yv S Lm Lc := by
  obtain ⟨sm, sc, nm, nc, dj, hM, ⟨ax, ay, hq, hR⟩, hO⟩ := hJ
  exact ⟨sm, sc, nm, nc, dj, MW_EQ hM hx, ⟨ax, ay, hq, RA_cong hR hy⟩, hO⟩
/-- a call of the reference -/
theorem V.mcall (h : CX l D tc A p s m args meth c cc nL own Ts) {y : MethodName} {cy : ByteArray} {my : Nat} {ry : Option FieldType} {d np idx : Nat} {As : List Value} {v : Value} (hJ : LJ tc am ad q0 o X Y yv S Lm Lc) (hR : RM l D tc am ad y cy my ry d (.ref am :: As) X (some v) X')
    (hc : Cond.code y cy my ry ∈ WG) (hi : Cond.initialized y.cls ∈ WG) (hlk : ML own idx y) (hin : Cond.instanceMethod y ∈ WG) (hse : Cond.selects RX11 y y ∈ WG) (hy : yok y np = true) (hnp : As.length = np)
    (hfr : d + 1 ≤ R.frames) (hlo : 8 + (my + 11) + 36 * d ≤ R.locals) (hro : k ≤ R.cells) (hrs : n ≤ R.slots) (hst : (st.map fun v => v.category).sum ≤ 8) (hd : decode cc pc = .ok (.invokevirtual idx, 3)) {st0 : List Value} (hst0 : st0 = As.reverse ++ .ref am :: st)
    (kk : ∀ (S' : HS) (Lm' : List Nat), LJ tc am ad q0 o X' Y yv S' Lm' Lc → V l D tc A p e R s m args below meth c nL Q S' k n (pc + 3) ls (v :: st)) : V l D tc A p e R s m args below meth c nL Q S k n pc ls st0 := by
  have hJ' := hJ
  obtain ⟨sm, sc, nm, nc, dj, hM, hRA, hO⟩ := hJ'
  refine V.callVF (st := st) (L := Lc) (L1 := Lm) (ci := 11) (np := np) (As := As) h ⟨sc, sm, nc, nm, fun a ha hb => dj a hb ha⟩ (hR _ hM) hc hi hlk hin hse hy hnp cls_11 hM.1 hM.2.1 hfr hlo hro hrs hst hd hst0 (fun v' S' hp => ?_)
  obtain ⟨rfl, hM'⟩ := hp
  refine V.dist (fun hn => ?_)
  exact kk _ _ (hJ.mod hM' hn)
/-- a call of a wrapper -/
theorem V.ccall (h : CX l D tc A p s m args meth c cc nL own Ts) {y : MethodName} {cy : ByteArray} {my : Nat} {ry : Option FieldType} {hh : List (Nat × Nat × Nat × Nat)} {d mc ms np idx : Nat} {As : List Value} {v : Value} (hJ : LJ tc am ad q0 o X Y yv S Lm Lc) (hM : CMH l D tc y hh cy my ry d mc ms As (zSub S Lc) (fun v' S' => v' = some v ∧ (∃ ax ay, ax 10 0 = q0 ∧ RA tc (mx ax ay) Y' S') ∧ OU o S' yv'))
    (hc : Cond.codeWith y cy my ry hh ∈ WG) (hi : Cond.initialized y.cls ∈ WG) (hlk : Cond.methodLink own idx y ∈ WG) (hin : Cond.static y ∈ WG) (hy : yok y np = true) (hnp : As.length = np)
    (hfr : d + 1 ≤ R.frames) (hlo : 8 + (my + 11) + 36 * d ≤ R.locals) (hro : k + mc ≤ R.cells) (hrs : n + ms ≤ R.slots) (hst : (st.map fun v => v.category).sum ≤ 8) (hd : decode cc pc = .ok (.invokestatic idx, 3)) {st0 : List Value} (hst0 : st0 = As.reverse ++ st)
    (kk : ∀ (S' : HS) (Lc' : List Nat), LJ tc am ad q0 o X Y' yv' S' Lm Lc' → V l D tc A p e R s m args below meth c nL Q S' (k + mc) (n + ms) (pc + 3) ls (v :: st)) : V l D tc A p e R s m args below meth c nL Q S k n pc ls st0 := by
  have hJ' := hJ
  obtain ⟨sm, sc, nm, nc, dj, hMW, hRA, hO⟩ := hJ'
  refine V.callSWF (st := st) (L := Lm) (L1 := Lc) (np := np) (As := As) h ⟨sm, sc, nm, nc, dj⟩ hM hc hi hlk hin hy hnp hfr hlo hro hrs hst hd hst0 (fun v' S' hp => ?_)
  obtain ⟨rfl, hR', hO'⟩ := hp
  refine V.dist (fun hn => ?_)
  exact kk _ _ (hJ.cls hR' hO' hn)
/-- a call of the class that changes nothing -/
theorem V.qcall (h : CX l D tc A p s m args meth c cc nL own Ts) {y : MethodName} {cy : ByteArray} {my : Nat} {ry : Option FieldType} {d np idx : Nat} {As : List Value} {v : Value} (hJ : LJ tc am ad q0 o X Y yv S Lm Lc) (hM : ∀ ax ay, ax 10 0 = q0 → RA tc (mx ax ay) Y S → CM l D tc y cy my ry d 0 0 (.ref q0 :: As) S (fun v' S' => v' = some v ∧ S' = S))
    (hc : Cond.code y cy my ry ∈ WG) (hi : Cond.initialized y.cls ∈ WG) (hlk : ML own idx y) (hin : Cond.instanceMethod y ∈ WG) (hse : Cond.selects RX10 y y ∈ WG) (hy : yok y np = true) (hnp : As.length = np)
    (hfr : d + 1 ≤ R.frames) (hlo : 8 + (my + 11) + 36 * d ≤ R.locals) (hro : k ≤ R.cells) (hrs : n ≤ R.slots) (hst : (st.map fun v => v.category).sum ≤ 8) (hd : decode cc pc = .ok (.invokevirtual idx, 3)) {st0 : List Value} (hst0 : st0 = As.reverse ++ .ref q0 :: st)
    (kk : V l D tc A p e R s m args below meth c nL Q S k n (pc + 3) ls (v :: st)) : V l D tc A p e R s m args below meth c nL Q S k n pc ls st0 := by
  obtain ⟨sm, sc, nm, nc, dj, hMW, ⟨ax, ay, hq, hRA⟩, hO⟩ := hJ
  have hR : RA tc (mx ax ay) Y S := hRA.at' (fun x hx => ⟨sc x hx, rfl, rfl, rfl, rfl, rfl, fun _ => ⟨rfl, rfl⟩⟩)
  have hm : q0 ∈ zL S ∧ zK S q0 = 10 := by
    have q := hR.1.1 10 0 rfl
    rw [← hq]
    exact q
  refine V.callV (st := st) (ci := 10) (np := np) (As := As) h (hM ax ay hq hR) hc hi hlk hin hse hy hnp cls_10 hm.1 hm.2 hfr hlo hro hrs hst hd hst0 (fun v' S' hp => ?_)
  obtain ⟨rfl, rfl⟩ := hp
  exact kk
/-- two locals forgotten -/
theorem V.two {a0 a1 a2 a3 a4 : Value} {x y : Option Value} (kk : V l D tc A p e R s m args below meth c nL Q S k n pc [some a0, some a1, some a2, some a3, some a4, none, none] st) : V l D tc A p e R s m args below meth c nL Q S k n pc [some a0, some a1, some a2, some a3, some a4, x, y] st := V.sub (fun i v hi => by
  match i, hi with
  | 0, hi => exact hi
  | 1, hi => exact hi
  | 2, hi => exact hi
  | 3, hi => exact hi
  | 4, hi => exact hi
  | 5, hi => exact absurd hi (by simp)
  | 6, hi => exact absurd hi (by simp)
  | i + 7, hi => exact absurd hi (by simp)) kk
end
theorem lg_same (x : Int64) : lg_cmp x x = 0 := by simp [lg_cmp]
