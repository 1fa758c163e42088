section
variable {l : Launch} {D : va_G} {tc : Nat → ClassId} {A : Nat → Prop} {p : Program} {e : Env} {R : Room} {s : State} {m : MethodId} {args : Array Value} {below : List Frame} {meth : Method} {c : Code} {nL : Nat} {Q : State → Prop} {S : HS} {k n : Nat} {pc : Nat} {ls : List (Option Value)} {st : List Value} {cc : ByteArray} {own : String} {Ts : List Cond}
def bcS (x y : Int32) : Int32 := (x.toUInt32 >>> (y.toUInt32 &&& Int32.toUInt32 31)).toInt32
theorem V.iushr (h : CX l D tc A p s m args meth c cc nL own Ts) {x y : Int32} (d : decode cc pc = .ok (.iushr, 1)) (kk : V l D tc A p e R s m args below meth c nL Q S k n (pc + 1) ls (.int (bcS x y) :: st)) : V l D tc A p e R s m args below meth c nL Q S k n pc ls (.int y :: .int x :: st) := fun H locs lsa hP hD hS hl => lv_iushr h.1 h.2.1 d rfl (kk H locs lsa hP hD hS hl)
theorem V.ldcw (h : CX l D tc A p s m args meth c cc nL own Ts) {idx : Nat} {v : Int32} (lk : Cond.constant own idx v ∈ WG) (d : decode cc pc = .ok (.ldc_w idx, 3)) (kk : V l D tc A p e R s m args below meth c nL Q S k n (pc + 3) ls (.int v :: st)) : V l D tc A p e R s m args below meth c nL Q S k n pc ls st := by
  intro H locs lsa hP hD hS hl
  obtain ⟨hx, hb, hml, hts, hown, hG, hA, hWG, -, -⟩ := h
  exact lv_ldcw hx hb hown (hts _ (hWG _ lk)) d (kk H locs lsa hP hD hS hl)
end
/-- the number of bits, as the library counts them -/
def bcA (x : Int32) : Int32 := x - (bcS x (kI 1) &&& 1431655765)
def bcB (a : Int32) : Int32 := (a &&& 858993459) + (bcS a (kI 2) &&& 858993459)
def bcC (b : Int32) : Int32 := (b + bcS b (kI 4)) &&& 252645135
def bcD (c : Int32) : Int32 := c + bcS c (kI 8)
def bcE (d : Int32) : Int32 := (d + bcS d (kI 16)) &&& kI 63
def bcF (x : Int32) : Int32 := bcE (bcD (bcC (bcB (bcA x))))
theorem m_bitCount {l : Launch} {D : va_G} {tc : Nat → ClassId} (hls : l.stackTraces = false) {x : Int32} {S : HS} {post : Option Value → HS → Prop} (hp : post (some (.int (bcF x))) S) : CM l D tc yJ6_bitCount_0f7a4 cJ6_bitCount_0f7a4 1 (some .int) 0 0 0 [.int x] S post := by
  refine CM.of hls (by decide +kernel) (by simp [Value.category]) (Nat.le_of_ble_eq_true rfl) (fun A0 p e9 s m args below meth c sz h hr hnm hA => ?_)
  refine V.blk h [(.iload_n 0, 1), (.iload_n 0, 1), (.iconst 1, 1)] (by decide +kernel) (pc' := 3) (ls' := [some (.int (x))]) (st' := [.int (kI 1), .int (x), .int (x)]) rfl rfl (Nat.le_of_ble_eq_true rfl) ?_
  refine V.iushr h (by decide +kernel) ?_
  refine V.ldcw h (idx := 265) (v := 1431655765) wo_694 (by decide +kernel) ?_
  refine V.blk h [(.iand, 1), (.isub, 1), (.istore_n 0, 1), (.iload_n 0, 1)] (by decide +kernel) (pc' := 11) (ls' := [some (.int (bcA x))]) (st' := [.int (bcA x)]) rfl rfl (Nat.le_of_ble_eq_true rfl) ?_
  refine V.ldcw h (idx := 266) (v := 858993459) wo_695 (by decide +kernel) ?_
  refine V.blk h [(.iand, 1), (.iload_n 0, 1), (.iconst 2, 1)] (by decide +kernel) (pc' := 17) (ls' := [some (.int (bcA x))]) (st' := [.int (kI 2), .int (bcA x), .int (bcA x &&& 858993459)]) rfl rfl (Nat.le_of_ble_eq_true rfl) ?_
  refine V.iushr h (by decide +kernel) ?_
  refine V.ldcw h (idx := 266) (v := 858993459) wo_695 (by decide +kernel) ?_
  refine V.blk h [(.iand, 1), (.iadd, 1), (.istore_n 0, 1), (.iload_n 0, 1), (.iload_n 0, 1), (.iconst 4, 1)] (by decide +kernel) (pc' := 27) (ls' := [some (.int (bcB (bcA x)))]) (st' := [.int (kI 4), .int (bcB (bcA x)), .int (bcB (bcA x))]) rfl rfl (Nat.le_of_ble_eq_true rfl) ?_
  refine V.iushr h (by decide +kernel) ?_
  refine V.blk h [(.iadd, 1)] (by decide +kernel) (pc' := 29) (ls' := [some (.int (bcB (bcA x)))]) (st' := [.int (bcB (bcA x) + bcS (bcB (bcA x)) (kI 4))]) rfl rfl (Nat.le_of_ble_eq_true rfl) ?_
  refine V.ldcw h (idx := 267) (v := 252645135) wo_696 (by decide +kernel) ?_
  refine V.blk h [(.iand, 1), (.istore_n 0, 1), (.iload_n 0, 1), (.iload_n 0, 1), (.bipush 8, 2)] (by decide +kernel) (pc' := 38) (ls' := [some (.int (bcC (bcB (bcA x))))]) (st' := [.int (kI 8), .int (bcC (bcB (bcA x))), .int (bcC (bcB (bcA x)))]) rfl rfl (Nat.le_of_ble_eq_true rfl) ?_
  refine V.iushr h (by decide +kernel) ?_
  refine V.blk h [(.iadd, 1), (.istore_n 0, 1), (.iload_n 0, 1), (.iload_n 0, 1), (.bipush 16, 2)] (by decide +kernel) (pc' := 45) (ls' := [some (.int (bcD (bcC (bcB (bcA x)))))]) (st' := [.int (kI 16), .int (bcD (bcC (bcB (bcA x)))), .int (bcD (bcC (bcB (bcA x))))]) rfl rfl (Nat.le_of_ble_eq_true rfl) ?_
  refine V.iushr h (by decide +kernel) ?_
  refine V.blk h [(.iadd, 1), (.istore_n 0, 1), (.iload_n 0, 1), (.bipush 63, 2), (.iand, 1)] (by decide +kernel) (pc' := 52) (ls' := [some (.int (bcD (bcC (bcB (bcA x))) + bcS (bcD (bcC (bcB (bcA x)))) (kI 16)))]) (st' := [.int (bcF x)]) rfl rfl (Nat.le_of_ble_eq_true rfl) ?_
  exact V.iret h hA hr rfl hp (by decide +kernel) (Nat.le_refl _) (Nat.le_refl _)
theorem r_bitCount {l : Launch} {D : va_G} {tc : Nat → ClassId} {am : Nat} {ad : Nat → Nat} (hls : l.stackTraces = false) (A : TS) (x : Int32) : RM l D tc am ad yJ6_bitCount_0f7a4 cJ6_bitCount_0f7a4 1 (some .int) 0 [.int x] A (some (.int (bcF x))) A := fun _ hS => m_bitCount hls ⟨rfl, hS⟩
/-- all of f bits: the count says it as the row of bits does -/
theorem bc_all : ∀ {a f : Nat}, a < 8 → f ≤ 3 → a < 2 ^ f → (bcF (nI a) = nI f ↔ a = 2 ^ f - 1) := by
  have key : ∀ (a : Fin 8) (f : Fin 4), a.val < 2 ^ f.val → (bcF (nI a.val) = nI f.val ↔ a.val = 2 ^ f.val - 1) := by decide +kernel
  exact fun {a f} ha hf h => key ⟨a, ha⟩ ⟨f, by omega⟩ h
def mxF (x y : Int32) : Int32 := if x < y then y else x
def mnF (x y : Int32) : Int32 := if y < x then y else x
/-- a list at b: its size, its array at t of M places (kind 23: an array of Objects) -/
def LO (S : HS) (b t M z : Nat) : Prop := b ∈ zL S ∧ zK S b = 0 ∧ zP S 1 b = some t ∧ zI S 2 b = nI z ∧ t ∈ zL S ∧ zK S t = 23 ∧ zN S t = M ∧ z ≤ M ∧ M < 2 ^ 31
theorem m_size {l : Launch} {D : va_G} {tc : Nat → ClassId} (hls : l.stackTraces = false) {b z : Nat} {S : HS} {post : Option Value → HS → Prop} (h1 : b ∈ zL S) (h2 : zK S b = 0) (h3 : zI S 2 b = nI z) (hp : post (some (.int (nI z))) S) : CM l D tc yJx4a65c_size_8abf5 cJx4a65c_size_8abf5 1 (some .int) 0 0 0 [.ref b] S post := by
  refine CM.of hls (by decide +kernel) (by simp [Value.category]) (Nat.le_of_ble_eq_true rfl) (fun A0 p e9 s m args below meth c sz h hr hnm hA => ?_)
  refine V.blk h [(.aload_n 0, 1)] (by decide +kernel) (pc' := 1) (ls' := [some (.ref b)]) (st' := [.ref b]) rfl rfl (Nat.le_of_ble_eq_true rfl) ?_
  refine V.getI h cls_0 (j := 2) rfl h1 h2 (Or.inl wf_RJx4a65c_48) (by decide +kernel) h3 ?_
  exact V.iret h hA hr rfl hp (by decide +kernel) (Nat.le_refl _) (Nat.le_refl _)
theorem m_elem {l : Launch} {D : va_G} {tc : Nat → ClassId} (hls : l.stackTraces = false) {b t M z i : Nat} {o : Option Nat} {S : HS} {post : Option Value → HS → Prop} (hL : LO S b t M z) (hi : i < M) (ho : zR S t i = o) (hp : post (some (va_rf o)) S) : CM l D tc yJx4a65c_elementData_915e3 cJx4a65c_elementData_915e3 2 (some (.object "java/lang/Object")) 0 0 0 [.ref b, .int (nI i)] S post := by
  obtain ⟨h1, h2, h3, h4, h5, h6, h7, h8, h9⟩ := hL
  refine CM.of hls (by decide +kernel) (by simp [Value.category]) (Nat.le_of_ble_eq_true rfl) (fun A0 p e9 s m args below meth c sz h hr hnm hA => ?_)
  refine V.blk h [(.aload_n 0, 1)] (by decide +kernel) (pc' := 1) (ls' := [some (.ref b), some (.int (nI i))]) (st' := [.ref b]) rfl rfl (Nat.le_of_ble_eq_true rfl) ?_
  refine V.getP h cls_0 (j := 1) rfl h1 h2 (Or.inl wf_RJx4a65c_9) (by decide +kernel) h3 ?_
  refine V.eq (st' := [.ref t]) rfl rfl rfl ?_
  refine V.blk h [(.iload_n 1, 1)] (by decide +kernel) (pc' := 5) (ls' := [some (.ref b), some (.int (nI i))]) (st' := [.int (nI i), .ref t]) rfl rfl (Nat.le_of_ble_eq_true rfl) ?_
  refine V.aald h 23 h5 h6 (by decide) rfl h7 hi h9 (by decide +kernel) ho ?_
  exact V.aret h hA hr (Or.inl ⟨_, rfl⟩) hp (by decide +kernel) (Nat.le_refl _) (Nat.le_refl _)
theorem m_check3 {l : Launch} {D : va_G} {tc : Nat → ClassId} (hls : l.stackTraces = false) {i z : Nat} {S : HS} {post : Option Value → HS → Prop} (hi : i < z) (hz : z < 2 ^ 31) (hp : post (some (.int (nI i))) S) : CM l D tc yJ3_checkIndex_8e157 cJ3_checkIndex_8e157 3 (some .int) 0 0 0 [.int (nI i), .int (nI z), .null] S post := by
  refine CM.of hls (by decide +kernel) (by simp [Value.category]) (Nat.le_of_ble_eq_true rfl) (fun A0 p e9 s m args below meth c sz h hr hnm hA => ?_)
  refine V.blk h [(.iload_n 0, 1)] (by decide +kernel) (pc' := 1) (ls' := [some (.int (nI i)), some (.int (nI z)), some .null]) (st' := [.int (nI i)]) rfl rfl (Nat.le_of_ble_eq_true rfl) ?_
  refine V.if_lt h (off := 8) (by decide +kernel) (tgt := 9) (by decide) (fun q => absurd q (fun q => (nI_z_lt (by omega)).mp q)) (fun _ => ?_)
  refine V.blk h [(.iload_n 0, 1), (.iload_n 1, 1)] (by decide +kernel) (pc' := 6) (ls' := [some (.int (nI i)), some (.int (nI z)), some .null]) (st' := [.int (nI z), .int (nI i)]) rfl rfl (Nat.le_of_ble_eq_true rfl) ?_
  refine V.icmp_lt h (off := 10) (by decide +kernel) (tgt := 16) (by decide) (fun _ => ?_) (fun q => absurd ((nI_ltI (by omega) hz).mpr hi) q)
  refine V.blk h [(.iload_n 0, 1)] (by decide +kernel) (pc' := 17) (ls' := [some (.int (nI i)), some (.int (nI z)), some .null]) (st' := [.int (nI i)]) rfl rfl (Nat.le_of_ble_eq_true rfl) ?_
  exact V.iret h hA hr rfl hp (by decide +kernel) (Nat.le_refl _) (Nat.le_refl _)
theorem m_check2 {l : Launch} {D : va_G} {tc : Nat → ClassId} (hls : l.stackTraces = false) {i z : Nat} {S : HS} {post : Option Value → HS → Prop} (hi : i < z) (hz : z < 2 ^ 31) (hp : post (some (.int (nI i))) S) : CM l D tc yJ15_checkIndex_7cf53 cJ15_checkIndex_7cf53 2 (some .int) 1 0 0 [.int (nI i), .int (nI z)] S post := by
  refine CM.of hls (by decide +kernel) (by simp [Value.category]) (Nat.le_of_ble_eq_true rfl) (fun A0 p e9 s m args below meth c sz h hr hnm hA => ?_)
  refine V.blk h [(.iload_n 0, 1), (.iload_n 1, 1), (.aconst_null, 1)] (by decide +kernel) (pc' := 3) (ls' := [some (.int (nI i)), some (.int (nI z))]) (st' := [.null, .int (nI z), .int (nI i)]) rfl rfl (Nat.le_of_ble_eq_true rfl) ?_
  refine V.callS h (np := 3) (st := []) (m_check3 hls hi hz (post := fun v S9 => v = some (.int (nI i)) ∧ S = S9) ⟨rfl, rfl⟩) wc_J3_checkIndex_8e157 wn_RJ3 (Or.inl wm_RJ15_105) wt_J3_checkIndex_8e157 (by decide +kernel) rfl (by decide) (by decide) (by decide) (by decide) (by simp [Value.category]) (by decide +kernel) rfl (fun v S9 q => ?_)
  obtain ⟨rfl, hS9⟩ := q
  subst hS9
  exact V.iret h hA hr rfl hp (by decide +kernel) (Nat.le_refl _) (Nat.le_refl _)
theorem m_get {l : Launch} {D : va_G} {tc : Nat → ClassId} (hls : l.stackTraces = false) {b t M z i : Nat} {o : Option Nat} {S : HS} {post : Option Value → HS → Prop} (hL : LO S b t M z) (hi : i < z) (ho : zR S t i = o) (hp : post (some (va_rf o)) S) : CM l D tc yJx4a65c_get_915e3 cJx4a65c_get_915e3 2 (some (.object "java/lang/Object")) 2 0 0 [.ref b, .int (nI i)] S post := by
  have hL0 := hL
  obtain ⟨h1, h2, h3, h4, h5, h6, h7, h8, h9⟩ := hL
  refine CM.of hls (by decide +kernel) (by simp [Value.category]) (Nat.le_of_ble_eq_true rfl) (fun A0 p e9 s m args below meth c sz h hr hnm hA => ?_)
  refine V.blk h [(.iload_n 1, 1), (.aload_n 0, 1)] (by decide +kernel) (pc' := 2) (ls' := [some (.ref b), some (.int (nI i))]) (st' := [.ref b, .int (nI i)]) rfl rfl (Nat.le_of_ble_eq_true rfl) ?_
  refine V.getI h cls_0 (j := 2) rfl h1 h2 (Or.inl wf_RJx4a65c_48) (by decide +kernel) h4 ?_
  refine V.callS h (np := 2) (st := []) (m_check2 hls hi (by omega) (post := fun v S9 => v = some (.int (nI i)) ∧ S = S9) ⟨rfl, rfl⟩) wc_J15_checkIndex_7cf53 wn_RJ15 (Or.inl wm_RJx4a65c_118) wt_J15_checkIndex_7cf53 (by decide +kernel) rfl (by decide) (by decide) (by decide) (by decide) (by simp [Value.category]) (by decide +kernel) rfl (fun v S9 q => ?_)
  obtain ⟨rfl, hS9⟩ := q
  subst hS9
  refine V.blk h [(.pop, 1), (.aload_n 0, 1), (.iload_n 1, 1)] (by decide +kernel) (pc' := 11) (ls' := [some (.ref b), some (.int (nI i))]) (st' := [.int (nI i), .ref b]) rfl rfl (Nat.le_of_ble_eq_true rfl) ?_
  refine V.callV h (np := 1) (st := []) (m_elem hls hL0 (by omega) ho (post := fun v S9 => v = some (va_rf o) ∧ S = S9) ⟨rfl, rfl⟩) wc_Jx4a65c_elementData_915e3 wn_RJx4a65c (Or.inl wm_RJx4a65c_123) wi_Jx4a65c_elementData_915e3 we_Jx4a65c_elementData_915e3 (by decide +kernel) rfl cls_0 h1 h2 (by decide) (by decide) (by decide) (by decide) (by simp [Value.category]) (by decide +kernel) rfl (fun v S9 q => ?_)
  obtain ⟨rfl, hS9⟩ := q
  subst hS9
  exact V.aret h hA hr (Or.inl ⟨_, rfl⟩) hp (by decide +kernel) (Nat.le_refl _) (Nat.le_refl _)
