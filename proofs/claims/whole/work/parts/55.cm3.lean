/-! ===== new letters, operations, entries, gets ===== -/
theorem opA_s (a : Nat → Nat → Nat) (t : Nat) : opA a (t + 1) = some (a 6 t) := by simp [opA]
theorem opA_z (a : Nat → Nat → Nat) : opA a 0 = none := rfl
theorem c_init4R {l : Launch} {D : va_G} {tc : Nat → ClassId} {S : HS} (hls : l.stackTraces = false) {q : Nat} {so : Nat} {e : Nat} {to : Nat} {o : Nat} {n : Nat} {x : Int32} {sa : Bool} (h1 : q ∈ zL S) (h2 : zK S q = 4) {post : Option Value → HS → Prop} (hp : post none (setI (setI (setI (setP (setI (setI (setI S (64 * 4 + 0) q (nI so)) (64 * 4 + 1) q (nI e)) (64 * 4 + 2) q (nI to)) (64 * 4 + 3) q (some o)) (64 * 4 + 4) q (nI n)) (64 * 4 + 5) q (x)) (64 * 4 + 6) q (bI sa))) : CM l D tc yX4_init cX4_init 8 none 1 0 0 [.ref q, .int (nI (so)), .int (nI (e)), .int (nI (to)), .ref o, .int (nI (n)), .int (x), .int (bI (sa))] S post := by
  refine CM.of hls (by decide +kernel) (by simp [Value.category]) (Nat.le_of_ble_eq_true rfl) (fun A0 p e9 s m args below meth c sz h hr hnm hA => ?_)
  refine V.eqL (ls' := [some (.ref q), some (.int (nI (so))), some (.int (nI (e))), some (.int (nI (to))), some (.ref o), some (.int (nI (n))), some (.int (x)), some (.int (bI (sa)))]) rfl ?_
  refine V.blk h [(.aload_n 0, 1)] (by decide +kernel) (pc' := 1) (ls' := [some (.ref q), some (.int (nI (so))), some (.int (nI (e))), some (.int (nI (to))), some (.ref o), some (.int (nI (n))), some (.int (x)), some (.int (bI (sa)))]) (st' := [.ref q]) rfl rfl (Nat.le_of_ble_eq_true rfl) ?_
  refine V.objInit h wm_RX4_3 wi_objectInit wc_objectInit (by decide +kernel) (by decide) (by decide) ?_
  refine V.blk h [(.aload_n 0, 1), (.iload_n 1, 1)] (by decide +kernel) (pc' := 6) (ls' := [some (.ref q), some (.int (nI (so))), some (.int (nI (e))), some (.int (nI (to))), some (.ref o), some (.int (nI (n))), some (.int (x)), some (.int (bI (sa)))]) (st' := [.int (nI (so)), .ref q]) rfl rfl (Nat.le_of_ble_eq_true rfl) ?_
  refine V.putIF (S := S) h hnm cls_4 (j := 0) rfl h1 h2 wf_RX4_9 rfl rfl rfl rfl (by decide +kernel) ?_
  refine V.blk h [(.aload_n 0, 1), (.iload_n 2, 1)] (by decide +kernel) (pc' := 11) (ls' := [some (.ref q), some (.int (nI (so))), some (.int (nI (e))), some (.int (nI (to))), some (.ref o), some (.int (nI (n))), some (.int (x)), some (.int (bI (sa)))]) (st' := [.int (nI (e)), .ref q]) rfl rfl (Nat.le_of_ble_eq_true rfl) ?_
  refine V.putIF (S := (setI S (64 * 4 + 0) q (nI so))) h hnm cls_4 (j := 1) rfl h1 h2 wf_RX4_15 rfl rfl rfl rfl (by decide +kernel) ?_
  refine V.blk h [(.aload_n 0, 1), (.iload_n 3, 1)] (by decide +kernel) (pc' := 16) (ls' := [some (.ref q), some (.int (nI (so))), some (.int (nI (e))), some (.int (nI (to))), some (.ref o), some (.int (nI (n))), some (.int (x)), some (.int (bI (sa)))]) (st' := [.int (nI (to)), .ref q]) rfl rfl (Nat.le_of_ble_eq_true rfl) ?_
  refine V.putIF (S := (setI (setI S (64 * 4 + 0) q (nI so)) (64 * 4 + 1) q (nI e))) h hnm cls_4 (j := 2) rfl h1 h2 wf_RX4_18 rfl rfl rfl rfl (by decide +kernel) ?_
  refine V.blk h [(.aload_n 0, 1), (.aload 4, 2)] (by decide +kernel) (pc' := 22) (ls' := [some (.ref q), some (.int (nI (so))), some (.int (nI (e))), some (.int (nI (to))), some (.ref o), some (.int (nI (n))), some (.int (x)), some (.int (bI (sa)))]) (st' := [.ref o, .ref q]) rfl rfl (Nat.le_of_ble_eq_true rfl) ?_
  refine V.putPF (v := some o) (S := (setI (setI (setI S (64 * 4 + 0) q (nI so)) (64 * 4 + 1) q (nI e)) (64 * 4 + 2) q (nI to))) h hnm cls_4 (j := 3) rfl h1 h2 wf_RX4_21 rfl rfl rfl rfl (by decide +kernel) ?_
  refine V.blk h [(.aload_n 0, 1), (.iload 5, 2)] (by decide +kernel) (pc' := 28) (ls' := [some (.ref q), some (.int (nI (so))), some (.int (nI (e))), some (.int (nI (to))), some (.ref o), some (.int (nI (n))), some (.int (x)), some (.int (bI (sa)))]) (st' := [.int (nI (n)), .ref q]) rfl rfl (Nat.le_of_ble_eq_true rfl) ?_
  refine V.putIF (S := (setP (setI (setI (setI S (64 * 4 + 0) q (nI so)) (64 * 4 + 1) q (nI e)) (64 * 4 + 2) q (nI to)) (64 * 4 + 3) q (some o))) h hnm cls_4 (j := 4) rfl h1 h2 wf_RX4_25 rfl rfl rfl rfl (by decide +kernel) ?_
  refine V.blk h [(.aload_n 0, 1), (.iload 6, 2)] (by decide +kernel) (pc' := 34) (ls' := [some (.ref q), some (.int (nI (so))), some (.int (nI (e))), some (.int (nI (to))), some (.ref o), some (.int (nI (n))), some (.int (x)), some (.int (bI (sa)))]) (st' := [.int (x), .ref q]) rfl rfl (Nat.le_of_ble_eq_true rfl) ?_
  refine V.putIF (S := (setI (setP (setI (setI (setI S (64 * 4 + 0) q (nI so)) (64 * 4 + 1) q (nI e)) (64 * 4 + 2) q (nI to)) (64 * 4 + 3) q (some o)) (64 * 4 + 4) q (nI n))) h hnm cls_4 (j := 5) rfl h1 h2 wf_RX4_28 rfl rfl rfl rfl (by decide +kernel) ?_
  refine V.blk h [(.aload_n 0, 1), (.iload 7, 2)] (by decide +kernel) (pc' := 40) (ls' := [some (.ref q), some (.int (nI (so))), some (.int (nI (e))), some (.int (nI (to))), some (.ref o), some (.int (nI (n))), some (.int (x)), some (.int (bI (sa)))]) (st' := [.int (bI (sa)), .ref q]) rfl rfl (Nat.le_of_ble_eq_true rfl) ?_
  refine V.putIF (S := (setI (setI (setP (setI (setI (setI S (64 * 4 + 0) q (nI so)) (64 * 4 + 1) q (nI e)) (64 * 4 + 2) q (nI to)) (64 * 4 + 3) q (some o)) (64 * 4 + 4) q (nI n)) (64 * 4 + 5) q (x))) h hnm cls_4 (j := 6) rfl h1 h2 wf_RX4_31 rfl rfl (bI_nar _) (bI_fit _) (by decide +kernel) ?_
  exact V.vret h hA hr hp (by decide +kernel) (Nat.zero_le _) (Nat.zero_le _)
theorem c_init4N {l : Launch} {D : va_G} {tc : Nat → ClassId} {S : HS} (hls : l.stackTraces = false) {q : Nat} {so : Nat} {e : Nat} {to : Nat} {n : Nat} {x : Int32} {sa : Bool} (h1 : q ∈ zL S) (h2 : zK S q = 4) {post : Option Value → HS → Prop} (hp : post none (setI (setI (setI (setP (setI (setI (setI S (64 * 4 + 0) q (nI so)) (64 * 4 + 1) q (nI e)) (64 * 4 + 2) q (nI to)) (64 * 4 + 3) q (none)) (64 * 4 + 4) q (nI n)) (64 * 4 + 5) q (x)) (64 * 4 + 6) q (bI sa))) : CM l D tc yX4_init cX4_init 8 none 1 0 0 [.ref q, .int (nI (so)), .int (nI (e)), .int (nI (to)), .null, .int (nI (n)), .int (x), .int (bI (sa))] S post := by
  refine CM.of hls (by decide +kernel) (by simp [Value.category]) (Nat.le_of_ble_eq_true rfl) (fun A0 p e9 s m args below meth c sz h hr hnm hA => ?_)
  refine V.eqL (ls' := [some (.ref q), some (.int (nI (so))), some (.int (nI (e))), some (.int (nI (to))), some (.null), some (.int (nI (n))), some (.int (x)), some (.int (bI (sa)))]) rfl ?_
  refine V.blk h [(.aload_n 0, 1)] (by decide +kernel) (pc' := 1) (ls' := [some (.ref q), some (.int (nI (so))), some (.int (nI (e))), some (.int (nI (to))), some (.null), some (.int (nI (n))), some (.int (x)), some (.int (bI (sa)))]) (st' := [.ref q]) rfl rfl (Nat.le_of_ble_eq_true rfl) ?_
  refine V.objInit h wm_RX4_3 wi_objectInit wc_objectInit (by decide +kernel) (by decide) (by decide) ?_
  refine V.blk h [(.aload_n 0, 1), (.iload_n 1, 1)] (by decide +kernel) (pc' := 6) (ls' := [some (.ref q), some (.int (nI (so))), some (.int (nI (e))), some (.int (nI (to))), some (.null), some (.int (nI (n))), some (.int (x)), some (.int (bI (sa)))]) (st' := [.int (nI (so)), .ref q]) rfl rfl (Nat.le_of_ble_eq_true rfl) ?_
  refine V.putIF (S := S) h hnm cls_4 (j := 0) rfl h1 h2 wf_RX4_9 rfl rfl rfl rfl (by decide +kernel) ?_
  refine V.blk h [(.aload_n 0, 1), (.iload_n 2, 1)] (by decide +kernel) (pc' := 11) (ls' := [some (.ref q), some (.int (nI (so))), some (.int (nI (e))), some (.int (nI (to))), some (.null), some (.int (nI (n))), some (.int (x)), some (.int (bI (sa)))]) (st' := [.int (nI (e)), .ref q]) rfl rfl (Nat.le_of_ble_eq_true rfl) ?_
  refine V.putIF (S := (setI S (64 * 4 + 0) q (nI so))) h hnm cls_4 (j := 1) rfl h1 h2 wf_RX4_15 rfl rfl rfl rfl (by decide +kernel) ?_
  refine V.blk h [(.aload_n 0, 1), (.iload_n 3, 1)] (by decide +kernel) (pc' := 16) (ls' := [some (.ref q), some (.int (nI (so))), some (.int (nI (e))), some (.int (nI (to))), some (.null), some (.int (nI (n))), some (.int (x)), some (.int (bI (sa)))]) (st' := [.int (nI (to)), .ref q]) rfl rfl (Nat.le_of_ble_eq_true rfl) ?_
  refine V.putIF (S := (setI (setI S (64 * 4 + 0) q (nI so)) (64 * 4 + 1) q (nI e))) h hnm cls_4 (j := 2) rfl h1 h2 wf_RX4_18 rfl rfl rfl rfl (by decide +kernel) ?_
  refine V.blk h [(.aload_n 0, 1), (.aload 4, 2)] (by decide +kernel) (pc' := 22) (ls' := [some (.ref q), some (.int (nI (so))), some (.int (nI (e))), some (.int (nI (to))), some (.null), some (.int (nI (n))), some (.int (x)), some (.int (bI (sa)))]) (st' := [.null, .ref q]) rfl rfl (Nat.le_of_ble_eq_true rfl) ?_
  refine V.putPF (v := none) (S := (setI (setI (setI S (64 * 4 + 0) q (nI so)) (64 * 4 + 1) q (nI e)) (64 * 4 + 2) q (nI to))) h hnm cls_4 (j := 3) rfl h1 h2 wf_RX4_21 rfl rfl rfl rfl (by decide +kernel) ?_
  refine V.blk h [(.aload_n 0, 1), (.iload 5, 2)] (by decide +kernel) (pc' := 28) (ls' := [some (.ref q), some (.int (nI (so))), some (.int (nI (e))), some (.int (nI (to))), some (.null), some (.int (nI (n))), some (.int (x)), some (.int (bI (sa)))]) (st' := [.int (nI (n)), .ref q]) rfl rfl (Nat.le_of_ble_eq_true rfl) ?_
  refine V.putIF (S := (setP (setI (setI (setI S (64 * 4 + 0) q (nI so)) (64 * 4 + 1) q (nI e)) (64 * 4 + 2) q (nI to)) (64 * 4 + 3) q (none))) h hnm cls_4 (j := 4) rfl h1 h2 wf_RX4_25 rfl rfl rfl rfl (by decide +kernel) ?_
  refine V.blk h [(.aload_n 0, 1), (.iload 6, 2)] (by decide +kernel) (pc' := 34) (ls' := [some (.ref q), some (.int (nI (so))), some (.int (nI (e))), some (.int (nI (to))), some (.null), some (.int (nI (n))), some (.int (x)), some (.int (bI (sa)))]) (st' := [.int (x), .ref q]) rfl rfl (Nat.le_of_ble_eq_true rfl) ?_
  refine V.putIF (S := (setI (setP (setI (setI (setI S (64 * 4 + 0) q (nI so)) (64 * 4 + 1) q (nI e)) (64 * 4 + 2) q (nI to)) (64 * 4 + 3) q (none)) (64 * 4 + 4) q (nI n))) h hnm cls_4 (j := 5) rfl h1 h2 wf_RX4_28 rfl rfl rfl rfl (by decide +kernel) ?_
  refine V.blk h [(.aload_n 0, 1), (.iload 7, 2)] (by decide +kernel) (pc' := 40) (ls' := [some (.ref q), some (.int (nI (so))), some (.int (nI (e))), some (.int (nI (to))), some (.null), some (.int (nI (n))), some (.int (x)), some (.int (bI (sa)))]) (st' := [.int (bI (sa)), .ref q]) rfl rfl (Nat.le_of_ble_eq_true rfl) ?_
  refine V.putIF (S := (setI (setI (setP (setI (setI (setI S (64 * 4 + 0) q (nI so)) (64 * 4 + 1) q (nI e)) (64 * 4 + 2) q (nI to)) (64 * 4 + 3) q (none)) (64 * 4 + 4) q (nI n)) (64 * 4 + 5) q (x))) h hnm cls_4 (j := 6) rfl h1 h2 wf_RX4_31 rfl rfl (bI_nar _) (bI_fit _) (by decide +kernel) ?_
  exact V.vret h hA hr hp (by decide +kernel) (Nat.zero_le _) (Nat.zero_le _)
theorem c_init6 {l : Launch} {D : va_G} {tc : Nat → ClassId} {S : HS} (hls : l.stackTraces = false) {q : Nat} {cl : Nat} {nr : Nat} {wh : Nat} {ky : Nat} {v : Int32} (h1 : q ∈ zL S) (h2 : zK S q = 6) {post : Option Value → HS → Prop} (hp : post none (setI (setI (setI (setI (setI S (64 * 6 + 0) q (nI cl)) (64 * 6 + 1) q (nI nr)) (64 * 6 + 2) q (nI wh)) (64 * 6 + 3) q (nI ky)) (64 * 6 + 4) q (v))) : CM l D tc yX6_init cX6_init 6 none 1 0 0 [.ref q, .int (nI (cl)), .int (nI (nr)), .int (nI (wh)), .int (nI (ky)), .int (v)] S post := by
  refine CM.of hls (by decide +kernel) (by simp [Value.category]) (Nat.le_of_ble_eq_true rfl) (fun A0 p e9 s m args below meth c sz h hr hnm hA => ?_)
  refine V.eqL (ls' := [some (.ref q), some (.int (nI (cl))), some (.int (nI (nr))), some (.int (nI (wh))), some (.int (nI (ky))), some (.int (v))]) rfl ?_
  refine V.blk h [(.aload_n 0, 1)] (by decide +kernel) (pc' := 1) (ls' := [some (.ref q), some (.int (nI (cl))), some (.int (nI (nr))), some (.int (nI (wh))), some (.int (nI (ky))), some (.int (v))]) (st' := [.ref q]) rfl rfl (Nat.le_of_ble_eq_true rfl) ?_
  refine V.objInit h wm_RX6_3 wi_objectInit wc_objectInit (by decide +kernel) (by decide) (by decide) ?_
  refine V.blk h [(.aload_n 0, 1), (.iload_n 1, 1)] (by decide +kernel) (pc' := 6) (ls' := [some (.ref q), some (.int (nI (cl))), some (.int (nI (nr))), some (.int (nI (wh))), some (.int (nI (ky))), some (.int (v))]) (st' := [.int (nI (cl)), .ref q]) rfl rfl (Nat.le_of_ble_eq_true rfl) ?_
  refine V.putIF (S := S) h hnm cls_6 (j := 0) rfl h1 h2 wf_RX6_9 rfl rfl rfl rfl (by decide +kernel) ?_
  refine V.blk h [(.aload_n 0, 1), (.iload_n 2, 1)] (by decide +kernel) (pc' := 11) (ls' := [some (.ref q), some (.int (nI (cl))), some (.int (nI (nr))), some (.int (nI (wh))), some (.int (nI (ky))), some (.int (v))]) (st' := [.int (nI (nr)), .ref q]) rfl rfl (Nat.le_of_ble_eq_true rfl) ?_
  refine V.putIF (S := (setI S (64 * 6 + 0) q (nI cl))) h hnm cls_6 (j := 1) rfl h1 h2 wf_RX6_15 rfl rfl rfl rfl (by decide +kernel) ?_
  refine V.blk h [(.aload_n 0, 1), (.iload_n 3, 1)] (by decide +kernel) (pc' := 16) (ls' := [some (.ref q), some (.int (nI (cl))), some (.int (nI (nr))), some (.int (nI (wh))), some (.int (nI (ky))), some (.int (v))]) (st' := [.int (nI (wh)), .ref q]) rfl rfl (Nat.le_of_ble_eq_true rfl) ?_
  refine V.putIF (S := (setI (setI S (64 * 6 + 0) q (nI cl)) (64 * 6 + 1) q (nI nr))) h hnm cls_6 (j := 2) rfl h1 h2 wf_RX6_18 rfl rfl rfl rfl (by decide +kernel) ?_
  refine V.blk h [(.aload_n 0, 1), (.iload 4, 2)] (by decide +kernel) (pc' := 22) (ls' := [some (.ref q), some (.int (nI (cl))), some (.int (nI (nr))), some (.int (nI (wh))), some (.int (nI (ky))), some (.int (v))]) (st' := [.int (nI (ky)), .ref q]) rfl rfl (Nat.le_of_ble_eq_true rfl) ?_
  refine V.putIF (S := (setI (setI (setI S (64 * 6 + 0) q (nI cl)) (64 * 6 + 1) q (nI nr)) (64 * 6 + 2) q (nI wh))) h hnm cls_6 (j := 3) rfl h1 h2 wf_RX6_21 rfl rfl rfl rfl (by decide +kernel) ?_
  refine V.blk h [(.aload_n 0, 1), (.iload 5, 2)] (by decide +kernel) (pc' := 28) (ls' := [some (.ref q), some (.int (nI (cl))), some (.int (nI (nr))), some (.int (nI (wh))), some (.int (nI (ky))), some (.int (v))]) (st' := [.int (v), .ref q]) rfl rfl (Nat.le_of_ble_eq_true rfl) ?_
  refine V.putIF (S := (setI (setI (setI (setI S (64 * 6 + 0) q (nI cl)) (64 * 6 + 1) q (nI nr)) (64 * 6 + 2) q (nI wh)) (64 * 6 + 3) q (nI ky))) h hnm cls_6 (j := 4) rfl h1 h2 wf_RX6_24 rfl rfl rfl rfl (by decide +kernel) ?_
  exact V.vret h hA hr hp (by decide +kernel) (Nat.zero_le _) (Nat.zero_le _)
theorem c_init3 {l : Launch} {D : va_G} {tc : Nat → ClassId} {S : HS} (hls : l.stackTraces = false) {q : Nat} {o : Nat} {x : Int32} {la : Bool} (h1 : q ∈ zL S) (h2 : zK S q = 3) {post : Option Value → HS → Prop} (hp : post none (setI (setI (setP S (64 * 3 + 0) q (some o)) (64 * 3 + 1) q (x)) (64 * 3 + 2) q (bI la))) : CM l D tc yX3_init cX3_init 4 none 1 0 0 [.ref q, .ref o, .int (x), .int (bI (la))] S post := by
  refine CM.of hls (by decide +kernel) (by simp [Value.category]) (Nat.le_of_ble_eq_true rfl) (fun A0 p e9 s m args below meth c sz h hr hnm hA => ?_)
  refine V.eqL (ls' := [some (.ref q), some (.ref o), some (.int (x)), some (.int (bI (la)))]) rfl ?_
  refine V.blk h [(.aload_n 0, 1)] (by decide +kernel) (pc' := 1) (ls' := [some (.ref q), some (.ref o), some (.int (x)), some (.int (bI (la)))]) (st' := [.ref q]) rfl rfl (Nat.le_of_ble_eq_true rfl) ?_
  refine V.objInit h wm_RX3_1 wi_objectInit wc_objectInit (by decide +kernel) (by decide) (by decide) ?_
  refine V.blk h [(.aload_n 0, 1), (.aload_n 1, 1)] (by decide +kernel) (pc' := 6) (ls' := [some (.ref q), some (.ref o), some (.int (x)), some (.int (bI (la)))]) (st' := [.ref o, .ref q]) rfl rfl (Nat.le_of_ble_eq_true rfl) ?_
  refine V.putPF (v := some o) (S := S) h hnm cls_3 (j := 0) rfl h1 h2 wf_RX3_7 rfl rfl rfl rfl (by decide +kernel) ?_
  refine V.blk h [(.aload_n 0, 1), (.iload_n 2, 1)] (by decide +kernel) (pc' := 11) (ls' := [some (.ref q), some (.ref o), some (.int (x)), some (.int (bI (la)))]) (st' := [.int (x), .ref q]) rfl rfl (Nat.le_of_ble_eq_true rfl) ?_
  refine V.putIF (S := (setP S (64 * 3 + 0) q (some o))) h hnm cls_3 (j := 1) rfl h1 h2 wf_RX3_13 rfl rfl rfl rfl (by decide +kernel) ?_
  refine V.blk h [(.aload_n 0, 1), (.iload_n 3, 1)] (by decide +kernel) (pc' := 16) (ls' := [some (.ref q), some (.ref o), some (.int (x)), some (.int (bI (la)))]) (st' := [.int (bI (la)), .ref q]) rfl rfl (Nat.le_of_ble_eq_true rfl) ?_
  refine V.putIF (S := (setI (setP S (64 * 3 + 0) q (some o)) (64 * 3 + 1) q (x))) h hnm cls_3 (j := 2) rfl h1 h2 wf_RX3_17 rfl rfl (bI_nar _) (bI_fit _) (by decide +kernel) ?_
  exact V.vret h hA hr hp (by decide +kernel) (Nat.zero_le _) (Nat.zero_le _)
theorem c_init8 {l : Launch} {D : va_G} {tc : Nat → ClassId} {S : HS} (hls : l.stackTraces = false) {q : Nat} {o : Nat} {pl : Nat} {x : Int32} {sy : Nat} (h1 : q ∈ zL S) (h2 : zK S q = 8) {post : Option Value → HS → Prop} (hp : post none (setI (setI (setI (setP S (64 * 8 + 0) q (some o)) (64 * 8 + 1) q (nI pl)) (64 * 8 + 2) q (x)) (64 * 8 + 3) q (nI sy))) : CM l D tc yX8_init cX8_init 5 none 1 0 0 [.ref q, .ref o, .int (nI (pl)), .int (x), .int (nI (sy))] S post := by
  refine CM.of hls (by decide +kernel) (by simp [Value.category]) (Nat.le_of_ble_eq_true rfl) (fun A0 p e9 s m args below meth c sz h hr hnm hA => ?_)
  refine V.eqL (ls' := [some (.ref q), some (.ref o), some (.int (nI (pl))), some (.int (x)), some (.int (nI (sy)))]) rfl ?_
  refine V.blk h [(.aload_n 0, 1)] (by decide +kernel) (pc' := 1) (ls' := [some (.ref q), some (.ref o), some (.int (nI (pl))), some (.int (x)), some (.int (nI (sy)))]) (st' := [.ref q]) rfl rfl (Nat.le_of_ble_eq_true rfl) ?_
  refine V.objInit h wm_RX8_1 wi_objectInit wc_objectInit (by decide +kernel) (by decide) (by decide) ?_
  refine V.blk h [(.aload_n 0, 1), (.aload_n 1, 1)] (by decide +kernel) (pc' := 6) (ls' := [some (.ref q), some (.ref o), some (.int (nI (pl))), some (.int (x)), some (.int (nI (sy)))]) (st' := [.ref o, .ref q]) rfl rfl (Nat.le_of_ble_eq_true rfl) ?_
  refine V.putPF (v := some o) (S := S) h hnm cls_8 (j := 0) rfl h1 h2 wf_RX8_7 rfl rfl rfl rfl (by decide +kernel) ?_
  refine V.blk h [(.aload_n 0, 1), (.iload_n 2, 1)] (by decide +kernel) (pc' := 11) (ls' := [some (.ref q), some (.ref o), some (.int (nI (pl))), some (.int (x)), some (.int (nI (sy)))]) (st' := [.int (nI (pl)), .ref q]) rfl rfl (Nat.le_of_ble_eq_true rfl) ?_
  refine V.putIF (S := (setP S (64 * 8 + 0) q (some o))) h hnm cls_8 (j := 1) rfl h1 h2 wf_RX8_13 rfl rfl rfl rfl (by decide +kernel) ?_
  refine V.blk h [(.aload_n 0, 1), (.iload_n 3, 1)] (by decide +kernel) (pc' := 16) (ls' := [some (.ref q), some (.ref o), some (.int (nI (pl))), some (.int (x)), some (.int (nI (sy)))]) (st' := [.int (x), .ref q]) rfl rfl (Nat.le_of_ble_eq_true rfl) ?_
  refine V.putIF (S := (setI (setP S (64 * 8 + 0) q (some o)) (64 * 8 + 1) q (nI pl))) h hnm cls_8 (j := 2) rfl h1 h2 wf_RX8_17 rfl rfl rfl rfl (by decide +kernel) ?_
  refine V.blk h [(.aload_n 0, 1), (.iload 4, 2)] (by decide +kernel) (pc' := 22) (ls' := [some (.ref q), some (.ref o), some (.int (nI (pl))), some (.int (x)), some (.int (nI (sy)))]) (st' := [.int (nI (sy)), .ref q]) rfl rfl (Nat.le_of_ble_eq_true rfl) ?_
  refine V.putIF (S := (setI (setI (setP S (64 * 8 + 0) q (some o)) (64 * 8 + 1) q (nI pl)) (64 * 8 + 2) q (x))) h hnm cls_8 (j := 3) rfl h1 h2 wf_RX8_20 rfl rfl rfl rfl (by decide +kernel) ?_
  exact V.vret h hA hr hp (by decide +kernel) (Nat.zero_le _) (Nat.zero_le _)
theorem c_init1 {l : Launch} {D : va_G} {tc : Nat → ClassId} {S : HS} (hls : l.stackTraces = false) {q : Nat} {i : Nat} (h1 : q ∈ zL S) (h2 : zK S q = 1) {post : Option Value → HS → Prop} (hp : post none (setI S (64 * 1 + 0) q (nI i))) : CM l D tc yX1_init cX1_init 2 none 1 0 0 [.ref q, .int (nI (i))] S post := by
  refine CM.of hls (by decide +kernel) (by simp [Value.category]) (Nat.le_of_ble_eq_true rfl) (fun A0 p e9 s m args below meth c sz h hr hnm hA => ?_)
  refine V.eqL (ls' := [some (.ref q), some (.int (nI (i)))]) rfl ?_
  refine V.blk h [(.aload_n 0, 1)] (by decide +kernel) (pc' := 1) (ls' := [some (.ref q), some (.int (nI (i)))]) (st' := [.ref q]) rfl rfl (Nat.le_of_ble_eq_true rfl) ?_
  refine V.objInit h wm_RX1_1 wi_objectInit wc_objectInit (by decide +kernel) (by decide) (by decide) ?_
  refine V.blk h [(.aload_n 0, 1), (.iload_n 1, 1)] (by decide +kernel) (pc' := 6) (ls' := [some (.ref q), some (.int (nI (i)))]) (st' := [.int (nI (i)), .ref q]) rfl rfl (Nat.le_of_ble_eq_true rfl) ?_
  refine V.putIF (S := S) h hnm cls_1 (j := 0) rfl h1 h2 wf_RX1_7 rfl rfl rfl rfl (by decide +kernel) ?_
  exact V.vret h hA hr hp (by decide +kernel) (Nat.zero_le _) (Nat.zero_le _)
theorem c_init2 {l : Launch} {D : va_G} {tc : Nat → ClassId} {S : HS} (hls : l.stackTraces = false) {q : Nat}  (h1 : q ∈ zL S) (h2 : zK S q = 2) {post : Option Value → HS → Prop} (hp : post none S) : CM l D tc yX2_init cX2_init 1 none 1 0 0 [.ref q] S post := by
  refine CM.of hls (by decide +kernel) (by simp [Value.category]) (Nat.le_of_ble_eq_true rfl) (fun A0 p e9 s m args below meth c sz h hr hnm hA => ?_)
  refine V.eqL (ls' := [some (.ref q)]) rfl ?_
  refine V.blk h [(.aload_n 0, 1)] (by decide +kernel) (pc' := 1) (ls' := [some (.ref q)]) (st' := [.ref q]) rfl rfl (Nat.le_of_ble_eq_true rfl) ?_
  refine V.objInit h wm_RX2_1 wi_objectInit wc_objectInit (by decide +kernel) (by decide) (by decide) ?_
  exact V.vret h hA hr hp (by decide +kernel) (Nat.zero_le _) (Nat.zero_le _)
section
variable {S : HS} {q so e to o n cl nr wh ky pl sy i : Nat} {x v : Int32} {sa la : Bool}
theorem new4R (hq : q ∉ zL S) : hext S (setI (setI (setI (setP (setI (setI (setI (newO S q 4) (64 * 4 + 0) q (nI so)) (64 * 4 + 1) q (nI e)) (64 * 4 + 2) q (nI to)) (64 * 4 + 3) q (some o)) (64 * 4 + 4) q (nI n)) (64 * 4 + 5) q (x)) (64 * 4 + 6) q (bI sa)) ∧ LT (setI (setI (setI (setP (setI (setI (setI (newO S q 4) (64 * 4 + 0) q (nI so)) (64 * 4 + 1) q (nI e)) (64 * 4 + 2) q (nI to)) (64 * 4 + 3) q (some o)) (64 * 4 + 4) q (nI n)) (64 * 4 + 5) q (x)) (64 * 4 + 6) q (bI sa)) q so e to (some o) n x sa := by
  refine ⟨((((((((hext.rfl.newO hq).setI hq).setI hq).setI hq).setP hq).setI hq).setI hq).setI hq), ?_⟩
  unfold LT
  simp [newO, setI, setP, zI, zP, zL, zK, up2, va_up_self]
theorem new4N (hq : q ∉ zL S) : hext S (setI (setI (setI (setP (setI (setI (setI (newO S q 4) (64 * 4 + 0) q (nI so)) (64 * 4 + 1) q (nI e)) (64 * 4 + 2) q (nI to)) (64 * 4 + 3) q (none)) (64 * 4 + 4) q (nI n)) (64 * 4 + 5) q (x)) (64 * 4 + 6) q (bI sa)) ∧ LT (setI (setI (setI (setP (setI (setI (setI (newO S q 4) (64 * 4 + 0) q (nI so)) (64 * 4 + 1) q (nI e)) (64 * 4 + 2) q (nI to)) (64 * 4 + 3) q (none)) (64 * 4 + 4) q (nI n)) (64 * 4 + 5) q (x)) (64 * 4 + 6) q (bI sa)) q so e to none n x sa := by
  refine ⟨((((((((hext.rfl.newO hq).setI hq).setI hq).setI hq).setP hq).setI hq).setI hq).setI hq), ?_⟩
  unfold LT
  simp [newO, setI, setP, zI, zP, zL, zK, up2, va_up_self]
def OT (S : HS) (q cl nr wh ky : Nat) (v : Int32) : Prop := q ∈ zL S ∧ zK S q = 6 ∧ zI S 384 q = nI cl ∧ zI S 385 q = nI nr ∧ zI S 386 q = nI wh ∧ zI S 387 q = nI ky ∧ zI S 388 q = v ∧ zI S 389 q = 0 ∧ zI S 390 q = 0 ∧ zI S 391 q = 0
theorem new6 (hq : q ∉ zL S) : hext S (setI (setI (setI (setI (setI (newO S q 6) (64 * 6 + 0) q (nI cl)) (64 * 6 + 1) q (nI nr)) (64 * 6 + 2) q (nI wh)) (64 * 6 + 3) q (nI ky)) (64 * 6 + 4) q (v)) ∧ OT (setI (setI (setI (setI (setI (newO S q 6) (64 * 6 + 0) q (nI cl)) (64 * 6 + 1) q (nI nr)) (64 * 6 + 2) q (nI wh)) (64 * 6 + 3) q (nI ky)) (64 * 6 + 4) q (v)) q cl nr wh ky v := by
  refine ⟨((((((hext.rfl.newO hq).setI hq).setI hq).setI hq).setI hq).setI hq), ?_⟩
  unfold OT
  simp [newO, setI, setP, zI, zP, zL, zK, up2, va_up_self]
theorem new3 (hq : q ∉ zL S) : hext S (setI (setI (setP (newO S q 3) (64 * 3 + 0) q (some o)) (64 * 3 + 1) q (x)) (64 * 3 + 2) q (bI la)) ∧ ET (setI (setI (setP (newO S q 3) (64 * 3 + 0) q (some o)) (64 * 3 + 1) q (x)) (64 * 3 + 2) q (bI la)) q o x la false := by
  refine ⟨((((hext.rfl.newO hq).setP hq).setI hq).setI hq), ?_⟩
  unfold ET
  simp [newO, setI, setP, zI, zP, zL, zK, up2, va_up_self] <;> rfl
theorem new8 (hq : q ∉ zL S) : hext S (setI (setI (setI (setP (newO S q 8) (64 * 8 + 0) q (some o)) (64 * 8 + 1) q (nI pl)) (64 * 8 + 2) q (x)) (64 * 8 + 3) q (nI sy)) ∧ GT (setI (setI (setI (setP (newO S q 8) (64 * 8 + 0) q (some o)) (64 * 8 + 1) q (nI pl)) (64 * 8 + 2) q (x)) (64 * 8 + 3) q (nI sy)) q o pl x sy 0 := by
  refine ⟨(((((hext.rfl.newO hq).setP hq).setI hq).setI hq).setI hq), ?_⟩
  unfold GT
  simp [newO, setI, setP, zI, zP, zL, zK, up2, va_up_self] <;> rfl
end
set_option maxRecDepth 100000 in
set_option maxHeartbeats 4000000 in
theorem c_toMaster {l : Launch} {D : va_G} {tc : Nat → ClassId} {ax ay : Nat → Nat → Nat} {A : TS} {S : HS} (hls : l.stackTraces = false) (hS : RA tc (mx ax ay) A S) {so : Nat} {e : Nat} {op : Nat}  (ho : op < tf A 13) {post : Option Value → HS → Prop} (hp : ∀ (S9 : HS) (q : Nat), hext S S9 → q ∉ zL S → RA tc (mx ax ay) A S9 → LT S9 q so e (tn A 5 op) (opA (mx ax ay) (op + 1)) (tn A 6 op) (nI 0) false → post (some (.ref q)) S9) : CM l D tc yX4_toMaster cX4_toMaster 3 (some (.object "OneTrip$Letter")) 2 1 7 [.int (nI (so)), .int (nI (e)), .ref (ax 6 op)] S post := by
  refine CM.of hls (by decide +kernel) (by simp [Value.category]) (Nat.le_of_ble_eq_true rfl) (fun A0 p e9 s m args below meth c sz h hr hnm hA => ?_)
  refine V.eqL (ls' := [some (.int (nI (so))), some (.int (nI (e))), some (.ref (ax 6 op))]) rfl ?_
  refine V.new h cls_4 wl_RX4_10 wz_RX4 wn_RX4 (by show 0 + 1 ≤ 1; omega) (by show 0 + 7 ≤ 7; omega) (by decide +kernel) (fun q1 hq1 => ?_)
  have hn2 := hS.ext (hext.rfl.newO (k := 4) hq1)
  refine V.blk h [(.dup, 1), (.iload_n 0, 1), (.iload_n 1, 1), (.aload_n 2, 1)] (by decide +kernel) (pc' := 7) (ls' := [some (.int (nI (so))), some (.int (nI (e))), some (.ref (ax 6 op))]) (st' := [.ref (ax 6 op), .int (nI (e)), .int (nI (so)), .ref q1, .ref q1]) rfl rfl (Nat.le_of_ble_eq_true rfl) ?_
  refine V.getI h cls_6 (j := 0) rfl (hn2.mem (show lv A 6 op from ho)) (hn2.knd (show lv A 6 op from ho)) (Or.inr ⟨_, wf_RX4_35⟩) (by decide +kernel) (v := nI (tn A 5 op)) (hn2.int (show lv A 6 op from ho) (by decide) (by decide) rfl) ?_
  refine V.blk h [(.aload_n 2, 1), (.aload_n 2, 1)] (by decide +kernel) (pc' := 12) (ls' := [some (.int (nI (so))), some (.int (nI (e))), some (.ref (ax 6 op))]) (st' := [.ref (ax 6 op), .ref (ax 6 op), .int (nI (tn A 5 op)), .int (nI (e)), .int (nI (so)), .ref q1, .ref q1]) rfl rfl (Nat.le_of_ble_eq_true rfl) ?_
  refine V.getI h cls_6 (j := 1) rfl (hn2.mem (show lv A 6 op from ho)) (hn2.knd (show lv A 6 op from ho)) (Or.inr ⟨_, wf_RX4_40⟩) (by decide +kernel) (v := nI (tn A 6 op)) (hn2.int (show lv A 6 op from ho) (by decide) (by decide) rfl) ?_
  refine V.blk h [(.iconst 0, 1), (.iconst 0, 1)] (by decide +kernel) (pc' := 17) (ls' := [some (.int (nI (so))), some (.int (nI (e))), some (.ref (ax 6 op))]) (st' := [.int (nI (0)), .int (nI (0)), .int (nI (tn A 6 op)), .ref (ax 6 op), .int (nI (tn A 5 op)), .int (nI (e)), .int (nI (so)), .ref q1, .ref q1]) rfl rfl (Nat.le_of_ble_eq_true rfl) ?_
  refine V.top (v' := .int (bI false)) (by decide) ?_
  refine V.callI h (np := 7) (st := [.ref q1]) (c_init4R hls (q := q1) (so := so) (e := e) (to := tn A 5 op) (o := ax 6 op) (n := tn A 6 op) (x := nI 0) (sa := false) (show q1 ∈ zL (newO S q1 4) from List.mem_append_right _ (List.mem_singleton.mpr rfl)) (show zK (newO S q1 4) q1 = 4 from va_up_self _ _ _) (post := fun v S9 => v = none ∧ _ = S9) ⟨rfl, rfl⟩) wc_X4_init wn_RX4 (Or.inl wm_RX4_41) wi_X4_init rfl (by decide +kernel) rfl (Nat.le_of_ble_eq_true rfl) (Nat.le_of_ble_eq_true rfl) (by show 1 + 0 ≤ 1; omega) (by show 7 + 0 ≤ 7; omega) (by simp [Value.category]) (by decide +kernel) rfl (fun v S9 q9 => ?_)
  obtain ⟨rfl, hq9⟩ := q9
  refine V.gen (P := fun S9 => hext S S9 ∧ LT S9 q1 so e (tn A 5 op) (some (ax 6 op)) (tn A 6 op) (nI 0) false) (hq9 ▸ new4R hq1) (fun S3 hS3 => ?_)
  clear hq9
  exact V.aret h hA hr (o := some q1) (Or.inl ⟨_, rfl⟩) (hp _ _ hS3.1 hq1 (hS.ext hS3.1) (by first | exact hS3.2 | (rw [opA_s]; exact hS3.2))) (by decide +kernel) (by omega) (by omega)
set_option maxRecDepth 100000 in
set_option maxHeartbeats 4000000 in
theorem c_toRecord {l : Launch} {D : va_G} {tc : Nat → ClassId} {ax ay : Nat → Nat → Nat} {A : TS} {S : HS} (hls : l.stackTraces = false) (hS : RA tc (mx ax ay) A S) {e : Nat} {w : Nat} {op : Nat}  (ho : op < tf A 13) {post : Option Value → HS → Prop} (hp : ∀ (S9 : HS) (q : Nat), hext S S9 → q ∉ zL S → RA tc (mx ax ay) A S9 → LT S9 q 1 e w (opA (mx ax ay) (op + 1)) (tn A 6 op) (nI 0) false → post (some (.ref q)) S9) : CM l D tc yX4_toRecord cX4_toRecord 3 (some (.object "OneTrip$Letter")) 2 1 7 [.int (nI (e)), .int (nI (w)), .ref (ax 6 op)] S post := by
  refine CM.of hls (by decide +kernel) (by simp [Value.category]) (Nat.le_of_ble_eq_true rfl) (fun A0 p e9 s m args below meth c sz h hr hnm hA => ?_)
  refine V.eqL (ls' := [some (.int (nI (e))), some (.int (nI (w))), some (.ref (ax 6 op))]) rfl ?_
  refine V.new h cls_4 wl_RX4_10 wz_RX4 wn_RX4 (by show 0 + 1 ≤ 1; omega) (by show 0 + 7 ≤ 7; omega) (by decide +kernel) (fun q1 hq1 => ?_)
  have hn2 := hS.ext (hext.rfl.newO (k := 4) hq1)
  refine V.blk h [(.dup, 1), (.iconst 1, 1), (.iload_n 0, 1), (.iload_n 1, 1), (.aload_n 2, 1), (.aload_n 2, 1)] (by decide +kernel) (pc' := 9) (ls' := [some (.int (nI (e))), some (.int (nI (w))), some (.ref (ax 6 op))]) (st' := [.ref (ax 6 op), .ref (ax 6 op), .int (nI (w)), .int (nI (e)), .int (nI (1)), .ref q1, .ref q1]) rfl rfl (Nat.le_of_ble_eq_true rfl) ?_
  refine V.getI h cls_6 (j := 1) rfl (hn2.mem (show lv A 6 op from ho)) (hn2.knd (show lv A 6 op from ho)) (Or.inr ⟨_, wf_RX4_40⟩) (by decide +kernel) (v := nI (tn A 6 op)) (hn2.int (show lv A 6 op from ho) (by decide) (by decide) rfl) ?_
  refine V.blk h [(.iconst 0, 1), (.iconst 0, 1)] (by decide +kernel) (pc' := 14) (ls' := [some (.int (nI (e))), some (.int (nI (w))), some (.ref (ax 6 op))]) (st' := [.int (nI (0)), .int (nI (0)), .int (nI (tn A 6 op)), .ref (ax 6 op), .int (nI (w)), .int (nI (e)), .int (nI (1)), .ref q1, .ref q1]) rfl rfl (Nat.le_of_ble_eq_true rfl) ?_
  refine V.top (v' := .int (bI false)) (by decide) ?_
  refine V.callI h (np := 7) (st := [.ref q1]) (c_init4R hls (q := q1) (so := 1) (e := e) (to := w) (o := ax 6 op) (n := tn A 6 op) (x := nI 0) (sa := false) (show q1 ∈ zL (newO S q1 4) from List.mem_append_right _ (List.mem_singleton.mpr rfl)) (show zK (newO S q1 4) q1 = 4 from va_up_self _ _ _) (post := fun v S9 => v = none ∧ _ = S9) ⟨rfl, rfl⟩) wc_X4_init wn_RX4 (Or.inl wm_RX4_41) wi_X4_init rfl (by decide +kernel) rfl (Nat.le_of_ble_eq_true rfl) (Nat.le_of_ble_eq_true rfl) (by show 1 + 0 ≤ 1; omega) (by show 7 + 0 ≤ 7; omega) (by simp [Value.category]) (by decide +kernel) rfl (fun v S9 q9 => ?_)
  obtain ⟨rfl, hq9⟩ := q9
  refine V.gen (P := fun S9 => hext S S9 ∧ LT S9 q1 1 e w (some (ax 6 op)) (tn A 6 op) (nI 0) false) (hq9 ▸ new4R hq1) (fun S3 hS3 => ?_)
  clear hq9
  exact V.aret h hA hr (o := some q1) (Or.inl ⟨_, rfl⟩) (hp _ _ hS3.1 hq1 (hS.ext hS3.1) (by first | exact hS3.2 | (rw [opA_s]; exact hS3.2))) (by decide +kernel) (by omega) (by omega)
set_option maxRecDepth 100000 in
set_option maxHeartbeats 4000000 in
theorem c_toClient {l : Launch} {D : va_G} {tc : Nat → ClassId} {ax ay : Nat → Nat → Nat} {A : TS} {S : HS} (hls : l.stackTraces = false) (hS : RA tc (mx ax ay) A S) {so : Nat} {e : Nat} {op : Nat} {w : Nat}  (ho : op < tf A 13) {post : Option Value → HS → Prop} (hp : ∀ (S9 : HS) (q : Nat), hext S S9 → q ∉ zL S → RA tc (mx ax ay) A S9 → LT S9 q so e (tn A 5 op) (opA (mx ax ay) (op + 1)) (tn A 6 op) (nI w) false → post (some (.ref q)) S9) : CM l D tc yX4_toClient cX4_toClient 4 (some (.object "OneTrip$Letter")) 2 1 7 [.int (nI (so)), .int (nI (e)), .ref (ax 6 op), .int (nI (w))] S post := by
  refine CM.of hls (by decide +kernel) (by simp [Value.category]) (Nat.le_of_ble_eq_true rfl) (fun A0 p e9 s m args below meth c sz h hr hnm hA => ?_)
  refine V.eqL (ls' := [some (.int (nI (so))), some (.int (nI (e))), some (.ref (ax 6 op)), some (.int (nI (w)))]) rfl ?_
  refine V.new h cls_4 wl_RX4_10 wz_RX4 wn_RX4 (by show 0 + 1 ≤ 1; omega) (by show 0 + 7 ≤ 7; omega) (by decide +kernel) (fun q1 hq1 => ?_)
  have hn2 := hS.ext (hext.rfl.newO (k := 4) hq1)
  refine V.blk h [(.dup, 1), (.iload_n 0, 1), (.iload_n 1, 1), (.aload_n 2, 1)] (by decide +kernel) (pc' := 7) (ls' := [some (.int (nI (so))), some (.int (nI (e))), some (.ref (ax 6 op)), some (.int (nI (w)))]) (st' := [.ref (ax 6 op), .int (nI (e)), .int (nI (so)), .ref q1, .ref q1]) rfl rfl (Nat.le_of_ble_eq_true rfl) ?_
  refine V.getI h cls_6 (j := 0) rfl (hn2.mem (show lv A 6 op from ho)) (hn2.knd (show lv A 6 op from ho)) (Or.inr ⟨_, wf_RX4_35⟩) (by decide +kernel) (v := nI (tn A 5 op)) (hn2.int (show lv A 6 op from ho) (by decide) (by decide) rfl) ?_
  refine V.blk h [(.aload_n 2, 1), (.aload_n 2, 1)] (by decide +kernel) (pc' := 12) (ls' := [some (.int (nI (so))), some (.int (nI (e))), some (.ref (ax 6 op)), some (.int (nI (w)))]) (st' := [.ref (ax 6 op), .ref (ax 6 op), .int (nI (tn A 5 op)), .int (nI (e)), .int (nI (so)), .ref q1, .ref q1]) rfl rfl (Nat.le_of_ble_eq_true rfl) ?_
  refine V.getI h cls_6 (j := 1) rfl (hn2.mem (show lv A 6 op from ho)) (hn2.knd (show lv A 6 op from ho)) (Or.inr ⟨_, wf_RX4_40⟩) (by decide +kernel) (v := nI (tn A 6 op)) (hn2.int (show lv A 6 op from ho) (by decide) (by decide) rfl) ?_
  refine V.blk h [(.iload_n 3, 1), (.iconst 0, 1)] (by decide +kernel) (pc' := 17) (ls' := [some (.int (nI (so))), some (.int (nI (e))), some (.ref (ax 6 op)), some (.int (nI (w)))]) (st' := [.int (nI (0)), .int (nI (w)), .int (nI (tn A 6 op)), .ref (ax 6 op), .int (nI (tn A 5 op)), .int (nI (e)), .int (nI (so)), .ref q1, .ref q1]) rfl rfl (Nat.le_of_ble_eq_true rfl) ?_
  refine V.top (v' := .int (bI false)) (by decide) ?_
  refine V.callI h (np := 7) (st := [.ref q1]) (c_init4R hls (q := q1) (so := so) (e := e) (to := tn A 5 op) (o := ax 6 op) (n := tn A 6 op) (x := nI w) (sa := false) (show q1 ∈ zL (newO S q1 4) from List.mem_append_right _ (List.mem_singleton.mpr rfl)) (show zK (newO S q1 4) q1 = 4 from va_up_self _ _ _) (post := fun v S9 => v = none ∧ _ = S9) ⟨rfl, rfl⟩) wc_X4_init wn_RX4 (Or.inl wm_RX4_41) wi_X4_init rfl (by decide +kernel) rfl (Nat.le_of_ble_eq_true rfl) (Nat.le_of_ble_eq_true rfl) (by show 1 + 0 ≤ 1; omega) (by show 7 + 0 ≤ 7; omega) (by simp [Value.category]) (by decide +kernel) rfl (fun v S9 q9 => ?_)
  obtain ⟨rfl, hq9⟩ := q9
  refine V.gen (P := fun S9 => hext S S9 ∧ LT S9 q1 so e (tn A 5 op) (some (ax 6 op)) (tn A 6 op) (nI w) false) (hq9 ▸ new4R hq1) (fun S3 hS3 => ?_)
  clear hq9
  exact V.aret h hA hr (o := some q1) (Or.inl ⟨_, rfl⟩) (hp _ _ hS3.1 hq1 (hS.ext hS3.1) (by first | exact hS3.2 | (rw [opA_s]; exact hS3.2))) (by decide +kernel) (by omega) (by omega)
set_option maxRecDepth 100000 in
set_option maxHeartbeats 4000000 in
theorem c_toAnswer {l : Launch} {D : va_G} {tc : Nat → ClassId} {ax ay : Nat → Nat → Nat} {A : TS} {S : HS} (hls : l.stackTraces = false) (hS : RA tc (mx ax ay) A S) {e : Nat} {op : Nat} {x : Int32} {sa : Bool}  (ho : op < tf A 13) {post : Option Value → HS → Prop} (hp : ∀ (S9 : HS) (q : Nat), hext S S9 → q ∉ zL S → RA tc (mx ax ay) A S9 → LT S9 q 2 e (tn A 5 op) (opA (mx ax ay) (op + 1)) (tn A 6 op) x sa → post (some (.ref q)) S9) : CM l D tc yX4_toAnswer cX4_toAnswer 4 (some (.object "OneTrip$Letter")) 2 1 7 [.int (nI (e)), .ref (ax 6 op), .int (x), .int (bI (sa))] S post := by
  refine CM.of hls (by decide +kernel) (by simp [Value.category]) (Nat.le_of_ble_eq_true rfl) (fun A0 p e9 s m args below meth c sz h hr hnm hA => ?_)
  refine V.eqL (ls' := [some (.int (nI (e))), some (.ref (ax 6 op)), some (.int (x)), some (.int (bI (sa)))]) rfl ?_
  refine V.new h cls_4 wl_RX4_10 wz_RX4 wn_RX4 (by show 0 + 1 ≤ 1; omega) (by show 0 + 7 ≤ 7; omega) (by decide +kernel) (fun q1 hq1 => ?_)
  have hn2 := hS.ext (hext.rfl.newO (k := 4) hq1)
  refine V.blk h [(.dup, 1), (.iconst 2, 1), (.iload_n 0, 1), (.aload_n 1, 1)] (by decide +kernel) (pc' := 7) (ls' := [some (.int (nI (e))), some (.ref (ax 6 op)), some (.int (x)), some (.int (bI (sa)))]) (st' := [.ref (ax 6 op), .int (nI (e)), .int (nI (2)), .ref q1, .ref q1]) rfl rfl (Nat.le_of_ble_eq_true rfl) ?_
  refine V.getI h cls_6 (j := 0) rfl (hn2.mem (show lv A 6 op from ho)) (hn2.knd (show lv A 6 op from ho)) (Or.inr ⟨_, wf_RX4_35⟩) (by decide +kernel) (v := nI (tn A 5 op)) (hn2.int (show lv A 6 op from ho) (by decide) (by decide) rfl) ?_
  refine V.blk h [(.aload_n 1, 1), (.aload_n 1, 1)] (by decide +kernel) (pc' := 12) (ls' := [some (.int (nI (e))), some (.ref (ax 6 op)), some (.int (x)), some (.int (bI (sa)))]) (st' := [.ref (ax 6 op), .ref (ax 6 op), .int (nI (tn A 5 op)), .int (nI (e)), .int (nI (2)), .ref q1, .ref q1]) rfl rfl (Nat.le_of_ble_eq_true rfl) ?_
  refine V.getI h cls_6 (j := 1) rfl (hn2.mem (show lv A 6 op from ho)) (hn2.knd (show lv A 6 op from ho)) (Or.inr ⟨_, wf_RX4_40⟩) (by decide +kernel) (v := nI (tn A 6 op)) (hn2.int (show lv A 6 op from ho) (by decide) (by decide) rfl) ?_
  refine V.blk h [(.iload_n 2, 1), (.iload_n 3, 1)] (by decide +kernel) (pc' := 17) (ls' := [some (.int (nI (e))), some (.ref (ax 6 op)), some (.int (x)), some (.int (bI (sa)))]) (st' := [.int (bI (sa)), .int (x), .int (nI (tn A 6 op)), .ref (ax 6 op), .int (nI (tn A 5 op)), .int (nI (e)), .int (nI (2)), .ref q1, .ref q1]) rfl rfl (Nat.le_of_ble_eq_true rfl) ?_
  refine V.callI h (np := 7) (st := [.ref q1]) (c_init4R hls (q := q1) (so := 2) (e := e) (to := tn A 5 op) (o := ax 6 op) (n := tn A 6 op) (x := x) (sa := sa) (show q1 ∈ zL (newO S q1 4) from List.mem_append_right _ (List.mem_singleton.mpr rfl)) (show zK (newO S q1 4) q1 = 4 from va_up_self _ _ _) (post := fun v S9 => v = none ∧ _ = S9) ⟨rfl, rfl⟩) wc_X4_init wn_RX4 (Or.inl wm_RX4_41) wi_X4_init rfl (by decide +kernel) rfl (Nat.le_of_ble_eq_true rfl) (Nat.le_of_ble_eq_true rfl) (by show 1 + 0 ≤ 1; omega) (by show 7 + 0 ≤ 7; omega) (by simp [Value.category]) (by decide +kernel) rfl (fun v S9 q9 => ?_)
  obtain ⟨rfl, hq9⟩ := q9
  refine V.gen (P := fun S9 => hext S S9 ∧ LT S9 q1 2 e (tn A 5 op) (some (ax 6 op)) (tn A 6 op) x sa) (hq9 ▸ new4R hq1) (fun S3 hS3 => ?_)
  clear hq9
  exact V.aret h hA hr (o := some q1) (Or.inl ⟨_, rfl⟩) (hp _ _ hS3.1 hq1 (hS.ext hS3.1) (by first | exact hS3.2 | (rw [opA_s]; exact hS3.2))) (by decide +kernel) (by omega) (by omega)
set_option maxRecDepth 100000 in
set_option maxHeartbeats 4000000 in
theorem c_toSync {l : Launch} {D : va_G} {tc : Nat → ClassId} {ax ay : Nat → Nat → Nat} {A : TS} {S : HS} (hls : l.stackTraces = false) (hS : RA tc (mx ax ay) A S) {e : Nat} {to : Nat} {n : Nat} {c9 : Nat}   {post : Option Value → HS → Prop} (hp : ∀ (S9 : HS) (q : Nat), hext S S9 → q ∉ zL S → RA tc (mx ax ay) A S9 → LT S9 q 6 e to none n (nI c9) false → post (some (.ref q)) S9) : CM l D tc yX4_toSync cX4_toSync 4 (some (.object "OneTrip$Letter")) 2 1 7 [.int (nI (e)), .int (nI (to)), .int (nI (n)), .int (nI (c9))] S post := by
  refine CM.of hls (by decide +kernel) (by simp [Value.category]) (Nat.le_of_ble_eq_true rfl) (fun A0 p e9 s m args below meth c sz h hr hnm hA => ?_)
  refine V.eqL (ls' := [some (.int (nI (e))), some (.int (nI (to))), some (.int (nI (n))), some (.int (nI (c9)))]) rfl ?_
  refine V.new h cls_4 wl_RX4_10 wz_RX4 wn_RX4 (by show 0 + 1 ≤ 1; omega) (by show 0 + 7 ≤ 7; omega) (by decide +kernel) (fun q1 hq1 => ?_)
  have hn2 := hS.ext (hext.rfl.newO (k := 4) hq1)
  refine V.blk h [(.dup, 1), (.bipush 6, 2), (.iload_n 0, 1), (.iload_n 1, 1), (.aconst_null, 1), (.iload_n 2, 1), (.iload_n 3, 1), (.iconst 0, 1)] (by decide +kernel) (pc' := 12) (ls' := [some (.int (nI (e))), some (.int (nI (to))), some (.int (nI (n))), some (.int (nI (c9)))]) (st' := [.int (nI (0)), .int (nI (c9)), .int (nI (n)), .null, .int (nI (to)), .int (nI (e)), .int (nI (6)), .ref q1, .ref q1]) rfl rfl (Nat.le_of_ble_eq_true rfl) ?_
  refine V.top (v' := .int (bI false)) (by decide) ?_
  refine V.callI h (np := 7) (st := [.ref q1]) (c_init4N hls (q := q1) (so := 6) (e := e) (to := to) (n := n) (x := nI c9) (sa := false) (show q1 ∈ zL (newO S q1 4) from List.mem_append_right _ (List.mem_singleton.mpr rfl)) (show zK (newO S q1 4) q1 = 4 from va_up_self _ _ _) (post := fun v S9 => v = none ∧ _ = S9) ⟨rfl, rfl⟩) wc_X4_init wn_RX4 (Or.inl wm_RX4_41) wi_X4_init rfl (by decide +kernel) rfl (Nat.le_of_ble_eq_true rfl) (Nat.le_of_ble_eq_true rfl) (by show 1 + 0 ≤ 1; omega) (by show 7 + 0 ≤ 7; omega) (by simp [Value.category]) (by decide +kernel) rfl (fun v S9 q9 => ?_)
  obtain ⟨rfl, hq9⟩ := q9
  refine V.gen (P := fun S9 => hext S S9 ∧ LT S9 q1 6 e to none n (nI c9) false) (hq9 ▸ new4N hq1) (fun S3 hS3 => ?_)
  clear hq9
  exact V.aret h hA hr (o := some q1) (Or.inl ⟨_, rfl⟩) (hp _ _ hS3.1 hq1 (hS.ext hS3.1) (by first | exact hS3.2 | (rw [opA_s]; exact hS3.2))) (by decide +kernel) (by omega) (by omega)
set_option maxRecDepth 100000 in
set_option maxHeartbeats 4000000 in
theorem c_toAck {l : Launch} {D : va_G} {tc : Nat → ClassId} {ax ay : Nat → Nat → Nat} {A : TS} {S : HS} (hls : l.stackTraces = false) (hS : RA tc (mx ax ay) A S) {e : Nat} {i : Nat} {c9 : Nat}  (hi : i < tf A 1) {post : Option Value → HS → Prop} (hp : ∀ (S9 : HS) (q : Nat), hext S S9 → q ∉ zL S → RA tc (mx ax ay) A S9 → LT S9 q 7 e i none (tn A 40 i) (nI c9) false → post (some (.ref q)) S9) : CM l D tc yX4_toAck cX4_toAck 3 (some (.object "OneTrip$Letter")) 2 1 7 [.int (nI (e)), .ref (ax 1 i), .int (nI (c9))] S post := by
  refine CM.of hls (by decide +kernel) (by simp [Value.category]) (Nat.le_of_ble_eq_true rfl) (fun A0 p e9 s m args below meth c sz h hr hnm hA => ?_)
  refine V.eqL (ls' := [some (.int (nI (e))), some (.ref (ax 1 i)), some (.int (nI (c9)))]) rfl ?_
  refine V.new h cls_4 wl_RX4_10 wz_RX4 wn_RX4 (by show 0 + 1 ≤ 1; omega) (by show 0 + 7 ≤ 7; omega) (by decide +kernel) (fun q1 hq1 => ?_)
  have hn2 := hS.ext (hext.rfl.newO (k := 4) hq1)
  refine V.blk h [(.dup, 1), (.bipush 7, 2), (.iload_n 0, 1), (.aload_n 1, 1)] (by decide +kernel) (pc' := 8) (ls' := [some (.int (nI (e))), some (.ref (ax 1 i)), some (.int (nI (c9)))]) (st' := [.ref (ax 1 i), .int (nI (e)), .int (nI (7)), .ref q1, .ref q1]) rfl rfl (Nat.le_of_ble_eq_true rfl) ?_
  refine V.getI h cls_1 (j := 0) rfl (hn2.mem (show lv A 1 i from hi)) (hn2.knd (show lv A 1 i from hi)) (Or.inr ⟨_, wf_RX4_44⟩) (by decide +kernel) (v := nI i) (hn2.int (show lv A 1 i from hi) (by decide) (by decide) rfl) ?_
  refine V.blk h [(.aconst_null, 1), (.aload_n 1, 1)] (by decide +kernel) (pc' := 13) (ls' := [some (.int (nI (e))), some (.ref (ax 1 i)), some (.int (nI (c9)))]) (st' := [.ref (ax 1 i), .null, .int (nI (i)), .int (nI (e)), .int (nI (7)), .ref q1, .ref q1]) rfl rfl (Nat.le_of_ble_eq_true rfl) ?_
  refine V.getI h cls_1 (j := 2) rfl (hn2.mem (show lv A 1 i from hi)) (hn2.knd (show lv A 1 i from hi)) (Or.inr ⟨_, wf_RX4_49⟩) (by decide +kernel) (v := nI (tn A 40 i)) (hn2.int (show lv A 1 i from hi) (by decide) (by decide) rfl) ?_
  refine V.blk h [(.iload_n 2, 1), (.iconst 0, 1)] (by decide +kernel) (pc' := 18) (ls' := [some (.int (nI (e))), some (.ref (ax 1 i)), some (.int (nI (c9)))]) (st' := [.int (nI (0)), .int (nI (c9)), .int (nI (tn A 40 i)), .null, .int (nI (i)), .int (nI (e)), .int (nI (7)), .ref q1, .ref q1]) rfl rfl (Nat.le_of_ble_eq_true rfl) ?_
  refine V.top (v' := .int (bI false)) (by decide) ?_
  refine V.callI h (np := 7) (st := [.ref q1]) (c_init4N hls (q := q1) (so := 7) (e := e) (to := i) (n := tn A 40 i) (x := nI c9) (sa := false) (show q1 ∈ zL (newO S q1 4) from List.mem_append_right _ (List.mem_singleton.mpr rfl)) (show zK (newO S q1 4) q1 = 4 from va_up_self _ _ _) (post := fun v S9 => v = none ∧ _ = S9) ⟨rfl, rfl⟩) wc_X4_init wn_RX4 (Or.inl wm_RX4_41) wi_X4_init rfl (by decide +kernel) rfl (Nat.le_of_ble_eq_true rfl) (Nat.le_of_ble_eq_true rfl) (by show 1 + 0 ≤ 1; omega) (by show 7 + 0 ≤ 7; omega) (by simp [Value.category]) (by decide +kernel) rfl (fun v S9 q9 => ?_)
  obtain ⟨rfl, hq9⟩ := q9
  refine V.gen (P := fun S9 => hext S S9 ∧ LT S9 q1 7 e i none (tn A 40 i) (nI c9) false) (hq9 ▸ new4N hq1) (fun S3 hS3 => ?_)
  clear hq9
  exact V.aret h hA hr (o := some q1) (Or.inl ⟨_, rfl⟩) (hp _ _ hS3.1 hq1 (hS.ext hS3.1) (by first | exact hS3.2 | (rw [opA_s]; exact hS3.2))) (by decide +kernel) (by omega) (by omega)
set_option maxRecDepth 100000 in
set_option maxHeartbeats 4000000 in
theorem c_toWitness {l : Launch} {D : va_G} {tc : Nat → ClassId} {ax ay : Nat → Nat → Nat} {A : TS} {S : HS} (hls : l.stackTraces = false) (hS : RA tc (mx ax ay) A S) {so : Nat} {e : Nat} {w : Nat} {n : Nat}   {post : Option Value → HS → Prop} (hp : ∀ (S9 : HS) (q : Nat), hext S S9 → q ∉ zL S → RA tc (mx ax ay) A S9 → LT S9 q so e w none n (nI 0) false → post (some (.ref q)) S9) : CM l D tc yX4_toWitness cX4_toWitness 4 (some (.object "OneTrip$Letter")) 2 1 7 [.int (nI (so)), .int (nI (e)), .int (nI (w)), .int (nI (n))] S post := by
  refine CM.of hls (by decide +kernel) (by simp [Value.category]) (Nat.le_of_ble_eq_true rfl) (fun A0 p e9 s m args below meth c sz h hr hnm hA => ?_)
  refine V.eqL (ls' := [some (.int (nI (so))), some (.int (nI (e))), some (.int (nI (w))), some (.int (nI (n)))]) rfl ?_
  refine V.new h cls_4 wl_RX4_10 wz_RX4 wn_RX4 (by show 0 + 1 ≤ 1; omega) (by show 0 + 7 ≤ 7; omega) (by decide +kernel) (fun q1 hq1 => ?_)
  have hn2 := hS.ext (hext.rfl.newO (k := 4) hq1)
  refine V.blk h [(.dup, 1), (.iload_n 0, 1), (.iload_n 1, 1), (.iload_n 2, 1), (.aconst_null, 1), (.iload_n 3, 1), (.iconst 0, 1), (.iconst 0, 1)] (by decide +kernel) (pc' := 11) (ls' := [some (.int (nI (so))), some (.int (nI (e))), some (.int (nI (w))), some (.int (nI (n)))]) (st' := [.int (nI (0)), .int (nI (0)), .int (nI (n)), .null, .int (nI (w)), .int (nI (e)), .int (nI (so)), .ref q1, .ref q1]) rfl rfl (Nat.le_of_ble_eq_true rfl) ?_
  refine V.top (v' := .int (bI false)) (by decide) ?_
  refine V.callI h (np := 7) (st := [.ref q1]) (c_init4N hls (q := q1) (so := so) (e := e) (to := w) (n := n) (x := nI 0) (sa := false) (show q1 ∈ zL (newO S q1 4) from List.mem_append_right _ (List.mem_singleton.mpr rfl)) (show zK (newO S q1 4) q1 = 4 from va_up_self _ _ _) (post := fun v S9 => v = none ∧ _ = S9) ⟨rfl, rfl⟩) wc_X4_init wn_RX4 (Or.inl wm_RX4_41) wi_X4_init rfl (by decide +kernel) rfl (Nat.le_of_ble_eq_true rfl) (Nat.le_of_ble_eq_true rfl) (by show 1 + 0 ≤ 1; omega) (by show 7 + 0 ≤ 7; omega) (by simp [Value.category]) (by decide +kernel) rfl (fun v S9 q9 => ?_)
  obtain ⟨rfl, hq9⟩ := q9
  refine V.gen (P := fun S9 => hext S S9 ∧ LT S9 q1 so e w none n (nI 0) false) (hq9 ▸ new4N hq1) (fun S3 hS3 => ?_)
  clear hq9
  exact V.aret h hA hr (o := some q1) (Or.inl ⟨_, rfl⟩) (hp _ _ hS3.1 hq1 (hS.ext hS3.1) (by first | exact hS3.2 | (rw [opA_s]; exact hS3.2))) (by decide +kernel) (by omega) (by omega)
