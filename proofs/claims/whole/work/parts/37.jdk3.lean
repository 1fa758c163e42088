/-! ===== a new list ===== -/
section
variable {l : Launch} {D : va_G} {tc : Nat → ClassId} {A : Nat → Prop} {p : Program} {e : Env} {R : Room} {s : State} {m : MethodId} {args : Array Value} {below : List Frame} {meth : Method} {c : Code} {nL : Nat} {Q : State → Prop} {S : HS} {k n : Nat} {pc : Nat} {ls : List (Option Value)} {st : List Value} {cc : ByteArray} {own : String} {Ts : List Cond}
/-- the static that holds the empty array -/
theorem V.getE (h : CX l D tc A p s m args meth c cc nL own Ts) {idx : Nat} (lk : Cond.fieldLink own idx "java/util/ArrayList" "DEFAULTCAPACITY_EMPTY_ELEMENTDATA" "[Ljava/lang/Object;" ∈ WG) (d : decode cc pc = .ok (.getstatic idx, 3)) (kk : V l D tc A p e R s m args below meth c nL Q S k n (pc + 3) ls (.ref (tc 100) :: st)) : V l D tc A p e R s m args below meth c nL Q S k n pc ls st := by
  intro H locs lsa hP hD hS hl
  obtain ⟨hx, hb, hml, hts, hown, hG, hA, hWG, -, -⟩ := h
  exact va_gets hx hb hG.2.2.2.2.2.1.1 hS hown (hts _ (hWG _ lk)) (fun _ h => h) d (kk H locs lsa hP hD hS hl)
end
/-- an empty list at b, that never held anything: its array is the empty one -/
def LE (tc : Nat → ClassId) (S : HS) (b : Nat) : Prop := b ∈ zL S ∧ zK S b = 0 ∧ zP S 1 b = some (tc 100) ∧ zI S 2 b = nI 0
theorem m_coll {l : Launch} {D : va_G} {tc : Nat → ClassId} (hls : l.stackTraces = false) {b : Nat} {S : HS} {post : Option Value → HS → Prop} (hp : post none S) : CM l D tc yJxa1e45_init_da8c8 cJxa1e45_init_da8c8 1 none 1 0 0 [.ref b] S post := by
  refine CM.of hls (by decide +kernel) (by simp [Value.category]) (Nat.le_of_ble_eq_true rfl) (fun A0 p e9 s m args below meth c sz h hr hnm hA => ?_)
  refine V.blk h [(.aload_n 0, 1)] (by decide +kernel) (pc' := 1) (ls' := [some (.ref b)]) (st' := [.ref b]) rfl rfl (Nat.le_of_ble_eq_true rfl) ?_
  refine V.objInit h wm_RJxa1e45_1 wi_objectInit wc_objectInit (by decide +kernel) (by decide) (by decide) ?_
  exact V.vret h hA hr hp (by decide +kernel) (Nat.le_refl _) (Nat.le_refl _)
theorem m_alist {l : Launch} {D : va_G} {tc : Nat → ClassId} (hls : l.stackTraces = false) {b : Nat} {S : HS} {post : Option Value → HS → Prop} (h1 : b ∈ zL S) (h2 : zK S b = 0) (hp : post none (setI S 0 b (nI 0))) : CM l D tc yJxc12de_init_da8c8 cJxc12de_init_da8c8 1 none 2 0 0 [.ref b] S post := by
  refine CM.of hls (by decide +kernel) (by simp [Value.category]) (Nat.le_of_ble_eq_true rfl) (fun A0 p e9 s m args below meth c sz h hr hnm hA => ?_)
  refine V.blk h [(.aload_n 0, 1)] (by decide +kernel) (pc' := 1) (ls' := [some (.ref b)]) (st' := [.ref b]) rfl rfl (Nat.le_of_ble_eq_true rfl) ?_
  refine V.callI h (np := 0) (st := []) (m_coll hls (b := b) (post := fun v S9 => v = none ∧ S = S9) ⟨rfl, rfl⟩) wc_Jxa1e45_init_da8c8 wn_RJxa1e45 (Or.inl wm_RJxc12de_1) wi_Jxa1e45_init_da8c8 rfl (by decide +kernel) rfl (by decide) (by decide) (by decide) (by decide) (by simp [Value.category]) (by decide +kernel) rfl (fun v S9 q => ?_)
  obtain ⟨rfl, hS9⟩ := q
  subst hS9
  refine V.blk h [(.aload_n 0, 1), (.iconst 0, 1)] (by decide +kernel) (pc' := 6) (ls' := [some (.ref b)]) (st' := [.int (nI 0), .ref b]) rfl rfl (Nat.le_of_ble_eq_true rfl) ?_
  refine V.putI h cls_0 (j := 0) rfl h1 h2 (Or.inl wf_RJxc12de_7) rfl rfl rfl (by decide +kernel) ?_
  exact V.vret h hA hr hp (by decide +kernel) (Nat.le_refl _) (Nat.le_refl _)
theorem m_newlist {l : Launch} {D : va_G} {tc : Nat → ClassId} (hls : l.stackTraces = false) {b : Nat} {S : HS} {post : Option Value → HS → Prop} (h1 : b ∈ zL S) (h2 : zK S b = 0) (hp : post none (setP (setI S 0 b (nI 0)) 1 b (some (tc 100)))) : CM l D tc yJx4a65c_init_da8c8 cJx4a65c_init_da8c8 1 none 3 0 0 [.ref b] S post := by
  refine CM.of hls (by decide +kernel) (by simp [Value.category]) (Nat.le_of_ble_eq_true rfl) (fun A0 p e9 s m args below meth c sz h hr hnm hA => ?_)
  refine V.blk h [(.aload_n 0, 1)] (by decide +kernel) (pc' := 1) (ls' := [some (.ref b)]) (st' := [.ref b]) rfl rfl (Nat.le_of_ble_eq_true rfl) ?_
  refine V.callI h (np := 0) (st := []) (m_alist hls h1 h2 (post := fun v S9 => v = none ∧ setI S 0 b (nI 0) = S9) ⟨rfl, rfl⟩) wc_Jxc12de_init_da8c8 wn_RJxc12de (Or.inl wm_RJx4a65c_1) wi_Jxc12de_init_da8c8 rfl (by decide +kernel) rfl (by decide) (by decide) (by decide) (by decide) (by simp [Value.category]) (by decide +kernel) rfl (fun v S9 q => ?_)
  obtain ⟨rfl, hS9⟩ := q
  subst hS9
  refine V.blk h [(.aload_n 0, 1)] (by decide +kernel) (pc' := 5) (ls' := [some (.ref b)]) (st' := [.ref b]) rfl rfl (Nat.le_of_ble_eq_true rfl) ?_
  refine V.getE h wf_RJx4a65c_39 (by decide +kernel) ?_
  refine V.putP (S := setI S 0 b (nI 0)) (v := some (tc 100)) h cls_0 (j := 1) rfl h1 h2 (Or.inl wf_RJx4a65c_9) rfl rfl rfl (by decide +kernel) ?_
  exact V.vret h hA hr hp (by decide +kernel) (Nat.le_refl _) (Nat.le_refl _)
