/-! ===== the law: its start ===== -/
set_option maxRecDepth 100000
def E0 : HS := ([], fun _ => 0, fun _ _ => 0, fun _ _ => none, fun _ => 0, fun _ _ => 0, fun _ _ => none, fun _ _ => 0)
theorem LJ.start {tc : Nat → ClassId} {am q0 o : Nat} {ad : Nat → Nat} {X Y : TS} {S1 S2 : HS} (hn : nd (zL (jn (zL S1) (newO S1 am 11) S2))) (ho : o ∉ zL (jn (zL S1) (newO S1 am 11) S2)) (hM : MW am ad X S2) (hR : ∃ ax ay, ax 10 0 = q0 ∧ RA tc (mx ax ay) Y S1) : LJ tc am ad q0 o X Y 0 (newA (jn (zL S1) (newO S1 am 11) S2) o 22 1) (zL S2) (zL S1 ++ [o]) := by
  have hn' : nd (zL S1 ++ zL S2) := hn
  obtain ⟨n1, n2, n3⟩ := nd_app hn'
  have ho1 : o ∉ zL S1 := fun z => ho (List.mem_append_left _ z)
  have ho2 : o ∉ zL S2 := fun z => ho (List.mem_append_right _ z)
  obtain ⟨ax, ay, hq, hR⟩ := hR
  have hs : ∀ x, x ≠ o → sameAt (jn (zL S1) (newO S1 am 11) S2) (zSub (newA (jn (zL S1) (newO S1 am 11) S2) o 22 1) (zL S1 ++ [o])) x := fun x hx => ⟨if_neg hx, if_neg hx, if_neg hx, if_neg hx, if_neg hx, fun _ => ⟨rfl, rfl⟩⟩
  have hs2 : ∀ x, x ≠ o → sameAt (jn (zL S1) (newO S1 am 11) S2) (zSub (newA (jn (zL S1) (newO S1 am 11) S2) o 22 1) (zL S2)) x := fun x hx => ⟨if_neg hx, if_neg hx, if_neg hx, if_neg hx, if_neg hx, fun _ => ⟨rfl, rfl⟩⟩
  have ham : am ∈ zL S2 := hM.1
  refine ⟨fun a ha => List.mem_append_left _ (List.mem_append_right _ ha), fun a ha => ?_, n2, ?_, fun a ha hb => ?_, hM.at' (fun x hx => ?_), ⟨ax, ay, hq, hR.at' (fun x hx => ?_)⟩, List.mem_append_right _ (List.mem_singleton.mpr rfl), if_pos rfl, if_pos rfl, ?_⟩
  · rcases List.mem_append.mp ha with z | z
    · exact List.mem_append_left _ (List.mem_append_left _ z)
    · exact List.mem_append_right _ z
  · refine (nd_iff _).mpr (List.nodup_append.mpr ⟨(nd_iff _).mp n1, by simp, fun a ha b hb e => ?_⟩)
    exact ho1 ((List.mem_singleton.mp hb) ▸ e ▸ ha)
  · rcases List.mem_append.mp hb with z | z
    · exact n3 a z ha
    · exact ho2 ((List.mem_singleton.mp z) ▸ ha)
  · have hxo : x ≠ o := fun z => ho2 (z ▸ hx)
    have hx1 : x ∉ zL S1 := fun z => n3 x z hx
    have a := hs2 x hxo
    have c : sameAt S2 (jn (zL S1) (newO S1 am 11) S2) x := ⟨if_neg hx1, if_neg hx1, if_neg hx1, if_neg hx1, if_neg hx1, fun _ => ⟨if_neg hx1, if_neg hx1⟩⟩
    exact ⟨hx, a.1.trans c.1, a.2.1.trans c.2.1, a.2.2.1.trans c.2.2.1, a.2.2.2.1.trans c.2.2.2.1, a.2.2.2.2.1.trans c.2.2.2.2.1, fun g => ⟨(a.2.2.2.2.2 g).1.trans (c.2.2.2.2.2 g).1, (a.2.2.2.2.2 g).2.trans (c.2.2.2.2.2 g).2⟩⟩
  · have hxo : x ≠ o := fun z => ho1 (z ▸ hx)
    have hxa : x ≠ am := fun z => n3 x hx (z ▸ ham)
    have a := hs x hxo
    have c : sameAt (newO S1 am 11) (jn (zL S1) (newO S1 am 11) S2) x := ⟨if_pos hx, if_pos hx, if_pos hx, if_pos hx, if_pos hx, fun _ => ⟨if_pos hx, if_pos hx⟩⟩
    have d : sameAt S1 (newO S1 am 11) x := ⟨if_neg hxa, rfl, rfl, rfl, rfl, fun _ => ⟨if_neg hxa, if_neg hxa⟩⟩
    exact ⟨List.mem_append_left _ hx, a.1.trans (c.1.trans d.1), a.2.1.trans (c.2.1.trans d.2.1), a.2.2.1.trans (c.2.2.1.trans d.2.2.1), a.2.2.2.1.trans (c.2.2.2.1.trans d.2.2.2.1), a.2.2.2.2.1.trans (c.2.2.2.2.1.trans d.2.2.2.2.1), fun g => ⟨(a.2.2.2.2.2 g).1.trans ((c.2.2.2.2.2 g).1.trans (d.2.2.2.2.2 g).1), (a.2.2.2.2.2 g).2.trans ((c.2.2.2.2.2 g).2.trans (d.2.2.2.2.2 g).2)⟩⟩
  · exact congrFun (if_pos rfl) 0
section
variable {l : Launch} {D : va_G} {tc : Nat → ClassId} {A : Nat → Prop} {p : Program} {e : Env} {s : State} {m : MethodId} {args : Array Value} {below : List Frame} {meth : Method} {c : Code} {Q : State → Prop} {Ts : List Cond} {b L : Nat} {xs : Nat → Int32}
theorem law_all (h : CX l D tc A p s m args meth c code 7 RL Ts) (hls : l.stackTraces = false) (hX : va_X b L xs s s.heap) (hbl : b < s.heap.size) (hbA : ¬ A b) (hL : L ≤ 2564)
    (kend : ∀ (S : HS) (q am o i : Nat), V l D tc A p e room_1 s m args below meth c 7 Q S 601024 7293000 1185 [some (.ref b), some (.ref q), some (.ref am), some (.ref o), some (.int (nI i)), none, none] []) : V l D tc A p e room_1 s m args below meth c 7 Q E0 0 0 0 [some (.ref b), none, none, none, none, none, none] [] := by
  refine V.new (pc := 0) (idx := 8) h cls_10 wl_RL_8 wz_RX10 wn_RX10 (by decide) (by decide) (by decide +kernel) (fun q hq => ?_)
  refine V.blk h [(.dup, 1), (.aload_n 0, 1), (.iconst 0, 1)] (by decide +kernel) (pc' := 6) (ls' := [some (.ref b), none, none, none, none, none, none]) (st' := [.int (nI 0), .ref b, .ref q, .ref q]) rfl rfl (Nat.le_of_ble_eq_true rfl) ?_
  refine V.cell (pc := 6) (st := [.ref q, .ref q]) (i := 0) h hls hX hbl hbA (by decide) (by omega) (by decide) (by decide) (by decide) (by decide) (by simp [Value.category]) (by decide +kernel) ?_
  refine V.blk h [(.aload_n 0, 1), (.iconst 1, 1)] (by decide +kernel) (pc' := 11) (ls' := [some (.ref b), none, none, none, none, none, none]) (st' := [.int (nI 1), .ref b, .int (celV xs L 0), .ref q, .ref q]) rfl rfl (Nat.le_of_ble_eq_true rfl) ?_
  refine V.cell (pc := 11) (st := [.int (celV xs L 0), .ref q, .ref q]) (i := 1) h hls hX hbl hbA (by decide) (by omega) (by decide) (by decide) (by decide) (by decide) (by simp [Value.category]) (by decide +kernel) ?_
  refine V.blk h [(.aload_n 0, 1), (.iconst 2, 1)] (by decide +kernel) (pc' := 16) (ls' := [some (.ref b), none, none, none, none, none, none]) (st' := [.int (nI 2), .ref b, .int (celV xs L 1), .int (celV xs L 0), .ref q, .ref q]) rfl rfl (Nat.le_of_ble_eq_true rfl) ?_
  refine V.cell (pc := 16) (st := [.int (celV xs L 1), .int (celV xs L 0), .ref q, .ref q]) (i := 2) h hls hX hbl hbA (by decide) (by omega) (by decide) (by decide) (by decide) (by decide) (by simp [Value.category]) (by decide +kernel) ?_
  refine V.blk h [(.aload_n 0, 1), (.iconst 3, 1)] (by decide +kernel) (pc' := 21) (ls' := [some (.ref b), none, none, none, none, none, none]) (st' := [.int (nI 3), .ref b, .int (celV xs L 2), .int (celV xs L 1), .int (celV xs L 0), .ref q, .ref q]) rfl rfl (Nat.le_of_ble_eq_true rfl) ?_
  refine V.cell (pc := 21) (st := [.int (celV xs L 2), .int (celV xs L 1), .int (celV xs L 0), .ref q, .ref q]) (i := 3) h hls hX hbl hbA (by decide) (by omega) (by decide) (by decide) (by decide) (by decide) (by simp [Value.category]) (by decide +kernel) ?_
  have hF := nrF_le (x := celV xs L 0) (lo := 1) (hi := 3) (by decide) (by decide)
  have hsu := nrF_le (x := celV xs L 1) (lo := 1) (hi := 4) (by decide) (by decide)
  have huu := nrF_le (x := celV xs L 2) (lo := 1) (hi := 4) (by decide) (by decide)
  have hob : ob (newO E0 q 10) q 10 [(649, 0), (650, 0)] [] := ob_new (by simp) (by simp)
  refine V.callI (pc := 24) (st := [.ref q]) (np := 4) (As := [.int (celV xs L 0), .int (celV xs L 1), .int (celV xs L 2), .int (celV xs L 3)]) h (c_init10 (post := fun v S1 => v = none ∧ ∃ ax ay, ax 10 0 = q ∧ RA tc (mx ax ay) (inC (nrF (celV xs L 0) 1 3) (nrF (celV xs L 1) 1 4) (nrF (celV xs L 2) 1 4) (nrF (celV xs L 3) 1 10)) S1) hls hob rfl rfl rfl rfl hF.2 hsu.2 huu.2 (fun T hT => ⟨rfl, RA_init hF hsu huu hT⟩)) wc_X10_init wn_RX10 (Or.inl wm_RL_70) wi_X10_init rfl (by decide +kernel) rfl (by decide) (by decide) (by decide) (by decide) (by simp [Value.category]) (by decide +kernel) rfl (fun v S1 hp => ?_)
  obtain ⟨rfl, hRA⟩ := hp
  refine V.blk h [(.astore_n 1, 1)] (by decide +kernel) (pc' := 28) (ls' := [some (.ref b), some (.ref q), none, none, none, none, none]) (st' := []) rfl rfl (Nat.le_of_ble_eq_true rfl) ?_
  refine V.dist (fun hn1 => ?_)
  refine V.new (pc := 28) (idx := 73) h cls_11 wl_RL_73 wz_RX11 wn_RX11 (by decide) (by decide) (by decide +kernel) (fun am ham => ?_)
  refine V.blk h [(.dup, 1), (.aload_n 0, 1), (.iconst 0, 1)] (by decide +kernel) (pc' := 34) (ls' := [some (.ref b), some (.ref q), none, none, none, none, none]) (st' := [.int (nI 0), .ref b, .ref am, .ref am]) rfl rfl (Nat.le_of_ble_eq_true rfl) ?_
  refine V.cell (pc := 34) (st := [.ref am, .ref am]) (i := 0) h hls hX hbl hbA (by decide) (by omega) (by decide) (by decide) (by decide) (by decide) (by simp [Value.category]) (by decide +kernel) ?_
  refine V.blk h [(.aload_n 0, 1), (.iconst 1, 1)] (by decide +kernel) (pc' := 39) (ls' := [some (.ref b), some (.ref q), none, none, none, none, none]) (st' := [.int (nI 1), .ref b, .int (celV xs L 0), .ref am, .ref am]) rfl rfl (Nat.le_of_ble_eq_true rfl) ?_
  refine V.cell (pc := 39) (st := [.int (celV xs L 0), .ref am, .ref am]) (i := 1) h hls hX hbl hbA (by decide) (by omega) (by decide) (by decide) (by decide) (by decide) (by simp [Value.category]) (by decide +kernel) ?_
  refine V.blk h [(.aload_n 0, 1), (.iconst 2, 1)] (by decide +kernel) (pc' := 44) (ls' := [some (.ref b), some (.ref q), none, none, none, none, none]) (st' := [.int (nI 2), .ref b, .int (celV xs L 1), .int (celV xs L 0), .ref am, .ref am]) rfl rfl (Nat.le_of_ble_eq_true rfl) ?_
  refine V.cell (pc := 44) (st := [.int (celV xs L 1), .int (celV xs L 0), .ref am, .ref am]) (i := 2) h hls hX hbl hbA (by decide) (by omega) (by decide) (by decide) (by decide) (by decide) (by simp [Value.category]) (by decide +kernel) ?_
  refine V.blk h [(.aload_n 0, 1), (.iconst 3, 1)] (by decide +kernel) (pc' := 49) (ls' := [some (.ref b), some (.ref q), none, none, none, none, none]) (st' := [.int (nI 3), .ref b, .int (celV xs L 2), .int (celV xs L 1), .int (celV xs L 0), .ref am, .ref am]) rfl rfl (Nat.le_of_ble_eq_true rfl) ?_
  refine V.cell (pc := 49) (st := [.int (celV xs L 2), .int (celV xs L 1), .int (celV xs L 0), .ref am, .ref am]) (i := 3) h hls hX hbl hbA (by decide) (by omega) (by decide) (by decide) (by decide) (by decide) (by simp [Value.category]) (by decide +kernel) ?_
  have hPT : PT (newO S1 am 11) (zL S1) [am] := ⟨fun a ha => List.mem_append_left _ ha, fun a ha => List.mem_append_right _ ha, hn1, (nd_iff [am]).mpr (by simp), fun a ha hb => ham ((List.mem_singleton.mp hb) ▸ ha)⟩
  have hMP : MP am (fun _ => 0) 5 (zSub (newO S1 am 11) [am]) := by
    refine ⟨List.mem_cons_self, if_pos rfl, fun x _ => if_pos rfl, fun x hx hf => ?_, fun x y hx hy hf => ?_⟩
    · have : x = 0 ∨ x = 1 ∨ x = 2 ∨ x = 3 ∨ x = 4 := by omega
      rcases this with rfl | rfl | rfl | rfl | rfl <;> cases hf
    · have : x = 0 ∨ x = 1 ∨ x = 2 ∨ x = 3 ∨ x = 4 := by omega
      rcases this with rfl | rfl | rfl | rfl | rfl <;> cases hf
  refine V.callIF (pc := 52) (st := [.ref am]) (np := 4) (As := [.int (celV xs L 0), .int (celV xs L 1), .int (celV xs L 2), .int (celV xs L 3)]) h hPT (r_init hls _ _ _ _ _ hMP) wc_X11_init wn_RX11 (Or.inl wm_RL_75) wi_X11_init rfl (by decide +kernel) rfl (by decide) (by decide) (by decide) (by decide) (by simp [Value.category]) (by decide +kernel) rfl (fun v S2 hp => ?_)
  obtain ⟨rfl, ad, hMW⟩ := hp
  refine V.blk h [(.astore_n 2, 1), (.iconst 1, 1)] (by decide +kernel) (pc' := 57) (ls' := [some (.ref b), some (.ref q), some (.ref am), none, none, none, none]) (st' := [.int (nI 1)]) rfl rfl (Nat.le_of_ble_eq_true rfl) ?_
  refine V.dist (fun hn2 => ?_)
  refine V.newJ (pc := 57) h (by decide) (by decide) (by decide +kernel) (fun o ho => ?_)
  refine V.blk h [(.astore_n 3, 1), (.iconst 4, 1), (.istore 4, 2)] (by decide +kernel) (pc' := 63) (ls' := [some (.ref b), some (.ref q), some (.ref am), some (.ref o), some (.int (nI 4)), none, none]) (st' := []) rfl rfl (Nat.le_of_ble_eq_true rfl) ?_
  obtain ⟨s1, s2, s3, s4, s5, s6⟩ := start_ok (celV xs L 0) (celV xs L 1) (celV xs L 2) (celV xs L 3)
  have hJ := (LJ.start (q0 := q) hn2 ho hMW hRA).mono (EQ.mrg _ (inC (nrF (celV xs L 0) 1 3) (nrF (celV xs L 1) 1 4) (nrF (celV xs L 2) 1 4) (nrF (celV xs L 3) 1 10))) s1
  refine V.widen (k' := KC 0) (n' := 65000 + 12468 * 0 + 15000 * tf (mrg (inF (celV xs L 0) (celV xs L 1) (celV xs L 2) (celV xs L 3)) (inC (nrF (celV xs L 0) 1 3) (nrF (celV xs L 1) 1 4) (nrF (celV xs L 2) 1 4) (nrF (celV xs L 3) 1 10))) 38) (by decide) (by rw [s6]; decide) ?_
  exact law_loop h hls hX hbl hbA hL (by decide) (by decide) (by decide) (by decide) (fun S i => kend S q am o i) 512 0 _ _ _ _ _ rfl hJ (s2.mono (by decide)) s3 (Nat.le_of_eq s4)
end
