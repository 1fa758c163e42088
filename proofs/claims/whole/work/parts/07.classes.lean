/-! the classes of the worlds, each with its layout words, its types, its defaults -/
def CLS (ci : Nat) (C : String) (T : u_T) (N : Nat) (ty : Nat → FieldType) : Prop := vwCl[ci]? = some (C, T, N) ∧ (∀ w ∈ u_ws C T N, w ∈ WG) ∧ (∀ k, k < N → parseFieldDescriptor (T k).2.2.1 = some (ty k)) ∧ (∀ a, a < N → ∀ b, b < N → a ≠ b → (T a).2.1 ≠ (T b).2.1) ∧ ci < 20 ∧ (fty ci).length = N ∧ (∀ j, j < N → defaultValue (ty j) = vp_V ((fty ci).map (fun b => if b = true then Value.int 0 else Value.null)) j)
theorem WG_ofL {ws : List Cond} (is : List Nat) (e : ws = is.filterMap (fun i => tables_1[i]?)) (g : ws.all goodWord = true) : ∀ w ∈ ws, w ∈ WG := by
  intro w h
  have hg := List.all_eq_true.mp g w h
  rw [e] at h
  obtain ⟨i, -, hi⟩ := List.mem_filterMap.mp h
  exact WG_of hi hg
theorem lay_0 : ∀ w ∈ wsJx4a65c0, w ∈ WG := WG_ofL [75, 71, 73] (by decide +kernel) (by decide +kernel)
theorem dfl_0 : ∀ j, j < 3 → defaultValue (tyJx4a65c j) = vp_V ((fty 0).map (fun b => if b = true then Value.int 0 else Value.null)) j := by decide +kernel
theorem cls_0 : CLS 0 RJx4a65c TJx4a65c 3 tyJx4a65c := ⟨rfl, lay_0, tyJx4a65c_ok, nmJx4a65c, by decide, rfl, dfl_0⟩
theorem lay_1 : ∀ w ∈ wsX10, w ∈ WG := WG_ofL [132, 134, 136] (by decide +kernel) (by decide +kernel)
theorem dfl_1 : ∀ j, j < 3 → defaultValue (tyX1 j) = vp_V ((fty 1).map (fun b => if b = true then Value.int 0 else Value.null)) j := by decide +kernel
theorem cls_1 : CLS 1 RX1 TX1 3 tyX1 := ⟨rfl, lay_1, tyX1_ok, nmX1, by decide, rfl, dfl_1⟩
theorem lay_2 : ∀ w ∈ wsX20, w ∈ WG := WG_ofL [103, 105, 107, 109, 111, 113] (by decide +kernel) (by decide +kernel)
theorem dfl_2 : ∀ j, j < 6 → defaultValue (tyX2 j) = vp_V ((fty 2).map (fun b => if b = true then Value.int 0 else Value.null)) j := by decide +kernel
theorem cls_2 : CLS 2 RX2 TX2 6 tyX2 := ⟨rfl, lay_2, tyX2_ok, nmX2, by decide, rfl, dfl_2⟩
theorem lay_3 : ∀ w ∈ wsX30, w ∈ WG := WG_ofL [756, 758, 760, 762] (by decide +kernel) (by decide +kernel)
theorem dfl_3 : ∀ j, j < 4 → defaultValue (tyX3 j) = vp_V ((fty 3).map (fun b => if b = true then Value.int 0 else Value.null)) j := by decide +kernel
theorem cls_3 : CLS 3 RX3 TX3 4 tyX3 := ⟨rfl, lay_3, tyX3_ok, nmX3, by decide, rfl, dfl_3⟩
theorem lay_4 : ∀ w ∈ wsX40, w ∈ WG := WG_ofL [571, 573, 575, 577, 579, 581, 583] (by decide +kernel) (by decide +kernel)
theorem dfl_4 : ∀ j, j < 7 → defaultValue (tyX4 j) = vp_V ((fty 4).map (fun b => if b = true then Value.int 0 else Value.null)) j := by decide +kernel
theorem cls_4 : CLS 4 RX4 TX4 7 tyX4 := ⟨rfl, lay_4, tyX4_ok, nmX4, by decide, rfl, dfl_4⟩
theorem lay_5 : ∀ w ∈ wsX50, w ∈ WG := WG_ofL [202, 204, 206, 208, 210, 212, 214, 216, 218, 220, 222, 224] (by decide +kernel) (by decide +kernel)
theorem dfl_5 : ∀ j, j < 12 → defaultValue (tyX5 j) = vp_V ((fty 5).map (fun b => if b = true then Value.int 0 else Value.null)) j := by decide +kernel
theorem cls_5 : CLS 5 RX5 TX5 12 tyX5 := ⟨rfl, lay_5, tyX5_ok, nmX5, by decide, rfl, dfl_5⟩
theorem lay_6 : ∀ w ∈ wsX60, w ∈ WG := WG_ofL [523, 525, 527, 529, 531, 533, 535, 537] (by decide +kernel) (by decide +kernel)
theorem dfl_6 : ∀ j, j < 8 → defaultValue (tyX6 j) = vp_V ((fty 6).map (fun b => if b = true then Value.int 0 else Value.null)) j := by decide +kernel
theorem cls_6 : CLS 6 RX6 TX6 8 tyX6 := ⟨rfl, lay_6, tyX6_ok, nmX6, by decide, rfl, dfl_6⟩
theorem lay_7 : ∀ w ∈ wsX70, w ∈ WG := WG_ofL [81, 83] (by decide +kernel) (by decide +kernel)
theorem dfl_7 : ∀ j, j < 2 → defaultValue (tyX7 j) = vp_V ((fty 7).map (fun b => if b = true then Value.int 0 else Value.null)) j := by decide +kernel
theorem cls_7 : CLS 7 RX7 TX7 2 tyX7 := ⟨rfl, lay_7, tyX7_ok, nmX7, by decide, rfl, dfl_7⟩
theorem lay_8 : ∀ w ∈ wsX80, w ∈ WG := WG_ofL [785, 787, 789, 791, 793] (by decide +kernel) (by decide +kernel)
theorem dfl_8 : ∀ j, j < 5 → defaultValue (tyX8 j) = vp_V ((fty 8).map (fun b => if b = true then Value.int 0 else Value.null)) j := by decide +kernel
theorem cls_8 : CLS 8 RX8 TX8 5 tyX8 := ⟨rfl, lay_8, tyX8_ok, nmX8, by decide, rfl, dfl_8⟩
theorem lay_9 : ∀ w ∈ wsX90, w ∈ WG := WG_ofL [157, 159, 161, 163, 165, 167] (by decide +kernel) (by decide +kernel)
theorem dfl_9 : ∀ j, j < 6 → defaultValue (tyX9 j) = vp_V ((fty 9).map (fun b => if b = true then Value.int 0 else Value.null)) j := by decide +kernel
theorem cls_9 : CLS 9 RX9 TX9 6 tyX9 := ⟨rfl, lay_9, tyX9_ok, nmX9, by decide, rfl, dfl_9⟩
theorem lay_10 : ∀ w ∈ wsX100, w ∈ WG := WG_ofL [297, 299, 301, 303, 305, 307, 309, 311, 313, 315, 317] (by decide +kernel) (by decide +kernel)
theorem dfl_10 : ∀ j, j < 11 → defaultValue (tyX10 j) = vp_V ((fty 10).map (fun b => if b = true then Value.int 0 else Value.null)) j := by decide +kernel
theorem cls_10 : CLS 10 RX10 TX10 11 tyX10 := ⟨rfl, lay_10, tyX10_ok, nmX10, by decide, rfl, dfl_10⟩
theorem lay_11 : ∀ w ∈ wsX110, w ∈ WG := WG_ofL [1058, 1060, 1062, 1064, 1066, 1068, 1070, 1072, 1074, 1076, 1078, 1080, 1082, 1084, 1086, 1088, 1090, 1092, 1094, 1096, 1098, 1100, 1102, 1104, 1106, 1108, 1110, 1112, 1114, 1116, 1118, 1120, 1122, 1124, 1126, 1128, 1130, 1132, 1134, 1136, 1138, 1140, 1142, 1144, 1146, 1148, 1150, 1152, 1154, 1156, 1158, 1160, 1162, 1164, 1166] (by decide +kernel) (by decide +kernel)
theorem dfl_11 : ∀ j, j < 55 → defaultValue (tyX11 j) = vp_V ((fty 11).map (fun b => if b = true then Value.int 0 else Value.null)) j := by decide +kernel
theorem cls_11 : CLS 11 RX11 TX11 55 tyX11 := ⟨rfl, lay_11, tyX11_ok, nmX11, by decide, rfl, dfl_11⟩
