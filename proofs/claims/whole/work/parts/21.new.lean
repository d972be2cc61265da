/-! printed walks: constructors -/
abbrev rm_X4_init : Room := { frames := 1, cells := 0, slots := 0, locals := 20 }
set_option maxHeartbeats 4000000 in
set_option maxRecDepth 100000 in
theorem c_X4_init (l : Launch) (G : GG) (a : Nat) : Ct l G yX4_init cX4_init 1 (none : Option Jvm.ClassFile.FieldType) rm_X4_init [.ref a] [(a, .inr (4, [.int 0, .int 0, .int 0, .int 0]))] (fun rv W1 => rv = none ∧ W1 = [(a, .inr (4, [.int 0, .int 0, .int 0, .int 0]))]) := by
  refine Ct.mk2 (by decide) (Nat.le_of_ble_eq_true rfl) ?_
  intro p e s m args below meth c A H locs ls Q cx wo hl hQ
  obtain ⟨hx, hb, hml, hr, hlo, hown, hts, hnm, kn, hA⟩ := id cx
  have hl : lv_has ls 1 [(0, .ref a)] := hl
  refine lv_aload_n hx hb dX4_init_0 rfl (lv_at hl 0 rfl) ?_
  refine objI cx m_67 m_54 m_55 hl.1 dX4_init_1 (by decide) (Nat.le_of_ble_eq_true rfl) ?_
  exact r2_v cx hQ wo dX4_init_4 ⟨rfl, rfl⟩
abbrev rm_X5_init : Room := { frames := 2, cells := 1, slots := 4, locals := 40 }
set_option maxHeartbeats 4000000 in
set_option maxRecDepth 100000 in
theorem c_X5_init (l : Launch) (G : GG) (a : Nat) (x : Int32) : Ct l G yX5_init cX5_init 2 (none : Option Jvm.ClassFile.FieldType) rm_X5_init [.ref a, .int x] [(a, .inr (5, [.int 0, .null, .int 0, .int 0, .int 0, .int 0]))] (fun rv W1 => rv = none ∧ ∃ q51 : Nat, W1 = [(a, .inr (5, [.int x, .ref q51, .int 1150, .int 0, .int 0, .int 0])), (q51, .inr (4, [.int 0, .int 0, .int 0, .int 0]))]) := by
  refine Ct.mk2 (by decide) (Nat.le_of_ble_eq_true rfl) ?_
  intro p e s m args below meth c A H locs ls Q cx wo hl hQ
  obtain ⟨hx, hb, hml, hr, hlo, hown, hts, hnm, kn, hA⟩ := id cx
  have hl : lv_has ls 2 [(0, .ref a), (1, .int x)] := hl
  refine lv_aload_n hx hb dX5_init_0 rfl (lv_at hl 0 rfl) ?_
  refine objI cx m_191 m_54 m_55 hl.1 dX5_init_1 (by decide) (Nat.le_of_ble_eq_true rfl) ?_
  refine lv_aload_n hx hb dX5_init_4 rfl (lv_at hl 0 rfl) ?_
  refine nobj (ci := 4) (fs := [.int 0, .int 0, .int 0, .int 0]) cx wo in_stuff tyX4 tyX4_ok m_192 m_63 m_41 rfl (fun j hj => by rcases (show j = 0 ∨ j = 1 ∨ j = 2 ∨ j = 3 by omega) with rfl | rfl | rfl | rfl <;> rfl) (by decide) (by decide) dX5_init_5 (fun q1 H wo => ?_)
  have wo : Wo G A s.heap H locs [(a, .inr (5, [.int 0, .null, .int 0, .int 0, .int 0, .int 0])), (q1, .inr (4, [.int 0, .int 0, .int 0, .int 0]))] := wo
  refine lv_dup hx hb dX5_init_8 rfl ?_
  refine call_IN (host := "HotAisle") (As := []) (rest := [.ref q1, .ref a]) (fun X => [(a, .inr (5, [.int 0, .null, .int 0, .int 0, .int 0, .int 0]))] ++ X) (Fr_r _) cx (c_X4_init l G q1) fx_X4_init (by decide) m_65 rfl ⟨by decide, by decide⟩ wo rfl hl.1 rfl (Nat.le_of_ble_eq_true rfl) dX5_init_9 ⟨by decide, by decide⟩ (fun v W1 H locs hp wo => ?_)
  obtain ⟨rfl, rfl⟩ := hp
  have wo : Wo G A s.heap H locs [(a, .inr (5, [.int 0, .null, .int 0, .int 0, .int 0, .int 0])), (q1, .inr (4, [.int 0, .int 0, .int 0, .int 0]))] := wo
  refine nrm_v ?_
  refine pthF (k := 1) (ty := .object "HotAisle$Stuff") cx wo rfl (by decide) in_vessel tyX5 tyX5_ok nmX5 rfl rfl m_196 rfl (by decide +kernel) rfl rfl (Nat.le_of_ble_eq_true rfl) dX5_init_12 (fun H locs wo => ?_)
  have wo : Wo G A s.heap H locs [(a, .inr (5, [.int 0, .ref q1, .int 0, .int 0, .int 0, .int 0])), (q1, .inr (4, [.int 0, .int 0, .int 0, .int 0]))] := wo
  refine lv_aload_n hx hb dX5_init_15 rfl (lv_at hl 0 rfl) ?_
  refine lv_sipush (v := 1150) hx hb dX5_init_16 (by decide) ?_
  refine pthN (k := 2) (ty := .int) cx wo rfl (by decide) in_vessel tyX5 tyX5_ok nmX5 rfl m_199 rfl (by decide +kernel) rfl rfl (Nat.le_of_ble_eq_true rfl) dX5_init_19 (fun H locs wo => ?_)
  have wo : Wo G A s.heap H locs [(a, .inr (5, [.int 0, .ref q1, .int 1150, .int 0, .int 0, .int 0])), (q1, .inr (4, [.int 0, .int 0, .int 0, .int 0]))] := wo
  refine lv_aload_n hx hb dX5_init_22 rfl (lv_at hl 0 rfl) ?_
  refine lv_iload_n hx hb dX5_init_23 rfl (lv_at hl 1 rfl) ?_
  refine pthF (k := 0) (ty := .int) cx wo rfl (by decide) in_vessel tyX5 tyX5_ok nmX5 rfl rfl m_194 rfl (by decide +kernel) rfl rfl (Nat.le_of_ble_eq_true rfl) dX5_init_24 (fun H locs wo => ?_)
  have wo : Wo G A s.heap H locs [(a, .inr (5, [.int x, .ref q1, .int 1150, .int 0, .int 0, .int 0])), (q1, .inr (4, [.int 0, .int 0, .int 0, .int 0]))] := wo
  exact r2_v cx hQ wo dX5_init_27 ⟨rfl, q1, rfl⟩
abbrev rm_X3_init : Room := { frames := 2, cells := 2, slots := 8, locals := 40 }
set_option maxHeartbeats 4000000 in
set_option maxRecDepth 100000 in
theorem c_X3_init (l : Launch) (G : GG) (a : Nat) (x : Int32) : Ct l G yX3_init cX3_init 2 (none : Option Jvm.ClassFile.FieldType) rm_X3_init [.ref a, .int x] [(a, .inr (3, [.null, .null, .int 0, .int 0, .int 0]))] (fun rv W1 => rv = none ∧ ∃ q51 q52 : Nat, W1 = [(a, .inr (3, [.ref q51, .ref q52, .int x, .int (-4), .int 0])), (q51, .inr (4, [.int 0, .int 0, .int 0, .int 0])), (q52, .inr (4, [.int 0, .int 0, .int 0, .int 0]))]) := by
  refine Ct.mk2 (by decide) (Nat.le_of_ble_eq_true rfl) ?_
  intro p e s m args below meth c A H locs ls Q cx wo hl hQ
  obtain ⟨hx, hb, hml, hr, hlo, hown, hts, hnm, kn, hA⟩ := id cx
  have hl : lv_has ls 2 [(0, .ref a), (1, .int x)] := hl
  refine lv_aload_n hx hb dX3_init_0 rfl (lv_at hl 0 rfl) ?_
  refine objI cx m_226 m_54 m_55 hl.1 dX3_init_1 (by decide) (Nat.le_of_ble_eq_true rfl) ?_
  refine lv_aload_n hx hb dX3_init_4 rfl (lv_at hl 0 rfl) ?_
  refine nobj (ci := 4) (fs := [.int 0, .int 0, .int 0, .int 0]) cx wo in_stuff tyX4 tyX4_ok m_227 m_63 m_41 rfl (fun j hj => by rcases (show j = 0 ∨ j = 1 ∨ j = 2 ∨ j = 3 by omega) with rfl | rfl | rfl | rfl <;> rfl) (by decide) (by decide) dX3_init_5 (fun q1 H wo => ?_)
  have wo : Wo G A s.heap H locs [(a, .inr (3, [.null, .null, .int 0, .int 0, .int 0])), (q1, .inr (4, [.int 0, .int 0, .int 0, .int 0]))] := wo
  refine lv_dup hx hb dX3_init_8 rfl ?_
  refine call_IN (host := "HotAisle") (As := []) (rest := [.ref q1, .ref a]) (fun X => [(a, .inr (3, [.null, .null, .int 0, .int 0, .int 0]))] ++ X) (Fr_r _) cx (c_X4_init l G q1) fx_X4_init (by decide) m_65 rfl ⟨by decide, by decide⟩ wo rfl hl.1 rfl (Nat.le_of_ble_eq_true rfl) dX3_init_9 ⟨by decide, by decide⟩ (fun v W1 H locs hp wo => ?_)
  obtain ⟨rfl, rfl⟩ := hp
  have wo : Wo G A s.heap H locs [(a, .inr (3, [.null, .null, .int 0, .int 0, .int 0])), (q1, .inr (4, [.int 0, .int 0, .int 0, .int 0]))] := wo
  refine nrm_v ?_
  refine pthF (k := 0) (ty := .object "HotAisle$Stuff") cx wo rfl (by decide) in_ladle tyX3 tyX3_ok nmX3 rfl rfl m_229 rfl (by decide +kernel) rfl rfl (Nat.le_of_ble_eq_true rfl) dX3_init_12 (fun H locs wo => ?_)
  have wo : Wo G A s.heap H locs [(a, .inr (3, [.ref q1, .null, .int 0, .int 0, .int 0])), (q1, .inr (4, [.int 0, .int 0, .int 0, .int 0]))] := wo
  refine lv_aload_n hx hb dX3_init_15 rfl (lv_at hl 0 rfl) ?_
  refine nobj (ci := 4) (fs := [.int 0, .int 0, .int 0, .int 0]) cx wo in_stuff tyX4 tyX4_ok m_227 m_63 m_41 rfl (fun j hj => by rcases (show j = 0 ∨ j = 1 ∨ j = 2 ∨ j = 3 by omega) with rfl | rfl | rfl | rfl <;> rfl) (by decide) (by decide) dX3_init_16 (fun q2 H wo => ?_)
  have wo : Wo G A s.heap H locs [(a, .inr (3, [.ref q1, .null, .int 0, .int 0, .int 0])), (q1, .inr (4, [.int 0, .int 0, .int 0, .int 0])), (q2, .inr (4, [.int 0, .int 0, .int 0, .int 0]))] := wo
  refine lv_dup hx hb dX3_init_19 rfl ?_
  refine call_IN (host := "HotAisle") (As := []) (rest := [.ref q2, .ref a]) (fun X => [(a, .inr (3, [.ref q1, .null, .int 0, .int 0, .int 0])), (q1, .inr (4, [.int 0, .int 0, .int 0, .int 0]))] ++ X) (Fr_r _) cx (c_X4_init l G q2) fx_X4_init (by decide) m_65 rfl ⟨by decide, by decide⟩ wo rfl hl.1 rfl (Nat.le_of_ble_eq_true rfl) dX3_init_20 ⟨by decide, by decide⟩ (fun v W1 H locs hp wo => ?_)
  obtain ⟨rfl, rfl⟩ := hp
  have wo : Wo G A s.heap H locs [(a, .inr (3, [.ref q1, .null, .int 0, .int 0, .int 0])), (q1, .inr (4, [.int 0, .int 0, .int 0, .int 0])), (q2, .inr (4, [.int 0, .int 0, .int 0, .int 0]))] := wo
  refine nrm_v ?_
  refine pthF (k := 1) (ty := .object "HotAisle$Stuff") cx wo rfl (by decide) in_ladle tyX3 tyX3_ok nmX3 rfl rfl m_231 rfl (by decide +kernel) rfl rfl (Nat.le_of_ble_eq_true rfl) dX3_init_23 (fun H locs wo => ?_)
  have wo : Wo G A s.heap H locs [(a, .inr (3, [.ref q1, .ref q2, .int 0, .int 0, .int 0])), (q1, .inr (4, [.int 0, .int 0, .int 0, .int 0])), (q2, .inr (4, [.int 0, .int 0, .int 0, .int 0]))] := wo
  refine lv_aload_n hx hb dX3_init_26 rfl (lv_at hl 0 rfl) ?_
  refine lv_bipush (v := (-4)) hx hb dX3_init_27 (by decide) ?_
  refine pthN (k := 3) (ty := .int) cx wo rfl (by decide) in_ladle tyX3 tyX3_ok nmX3 rfl m_235 rfl (by decide +kernel) rfl rfl (Nat.le_of_ble_eq_true rfl) dX3_init_29 (fun H locs wo => ?_)
  have wo : Wo G A s.heap H locs [(a, .inr (3, [.ref q1, .ref q2, .int 0, .int (-4), .int 0])), (q1, .inr (4, [.int 0, .int 0, .int 0, .int 0])), (q2, .inr (4, [.int 0, .int 0, .int 0, .int 0]))] := wo
  refine lv_aload_n hx hb dX3_init_32 rfl (lv_at hl 0 rfl) ?_
  refine lv_iconst (v := 0) hx hb dX3_init_33 (by decide) ?_
  refine pthN (k := 4) (ty := .int) cx wo rfl (by decide) in_ladle tyX3 tyX3_ok nmX3 rfl m_237 rfl (by decide +kernel) rfl rfl (Nat.le_of_ble_eq_true rfl) dX3_init_34 (fun H locs wo => ?_)
  have wo : Wo G A s.heap H locs [(a, .inr (3, [.ref q1, .ref q2, .int 0, .int (-4), .int 0])), (q1, .inr (4, [.int 0, .int 0, .int 0, .int 0])), (q2, .inr (4, [.int 0, .int 0, .int 0, .int 0]))] := wo
  refine lv_aload_n hx hb dX3_init_37 rfl (lv_at hl 0 rfl) ?_
  refine lv_iload_n hx hb dX3_init_38 rfl (lv_at hl 1 rfl) ?_
  refine pthN (k := 2) (ty := .int) cx wo rfl (by decide) in_ladle tyX3 tyX3_ok nmX3 rfl m_233 rfl (by decide +kernel) rfl rfl (Nat.le_of_ble_eq_true rfl) dX3_init_39 (fun H locs wo => ?_)
  have wo : Wo G A s.heap H locs [(a, .inr (3, [.ref q1, .ref q2, .int x, .int (-4), .int 0])), (q1, .inr (4, [.int 0, .int 0, .int 0, .int 0])), (q2, .inr (4, [.int 0, .int 0, .int 0, .int 0]))] := wo
  exact r2_v cx hQ wo dX3_init_42 ⟨rfl, q1, q2, rfl⟩
abbrev rm_X2_init : Room := { frames := 1, cells := 2, slots := 16, locals := 20 }
set_option maxHeartbeats 4000000 in
set_option maxRecDepth 100000 in
theorem c_X2_init (l : Launch) (G : GG) (a : Nat) (x : Int32) (y : Int32) : Ct l G yX2_init cX2_init 3 (none : Option Jvm.ClassFile.FieldType) rm_X2_init [.ref a, .int x, .int y] [(a, .inr (2, [.int 0, .null, .null, .int 0, .int 0, .int 0]))] (fun rv W1 => rv = none ∧ ∃ q51 q52 : Nat, W1 = [(a, .inr (2, [.int x, .ref q51, .ref q52, .int y, .int 0, .int 0])), (q51, .inl (G.2 0, 8, .inl (fun _ => 0))), (q52, .inl (G.2 0, 8, .inl (fun _ => 0)))]) := by
  refine Ct.mk2 (by decide) (Nat.le_of_ble_eq_true rfl) ?_
  intro p e s m args below meth c A H locs ls Q cx wo hl hQ
  obtain ⟨hx, hb, hml, hr, hlo, hown, hts, hnm, kn, hA⟩ := id cx
  have hl : lv_has ls 3 [(0, .ref a), (1, .int x), (2, .int y)] := hl
  refine lv_aload_n hx hb dX2_init_0 rfl (lv_at hl 0 rfl) ?_
  refine objI cx m_101 m_54 m_55 hl.1 dX2_init_1 (by decide) (Nat.le_of_ble_eq_true rfl) ?_
  refine lv_aload_n hx hb dX2_init_4 rfl (lv_at hl 0 rfl) ?_
  refine lv_bipush (v := 8) hx hb dX2_init_5 (by decide) ?_
  refine narr_i (N := 8) cx wo m_126 rfl (by decide) (by decide) (by decide) dX2_init_7 (fun q1 H wo => ?_)
  have wo : Wo G A s.heap H locs [(a, .inr (2, [.int 0, .null, .null, .int 0, .int 0, .int 0])), (q1, .inl (G.2 0, 8, .inl (fun _ => 0)))] := wo
  refine pthF (k := 1) (ty := .array .int) cx wo rfl (by decide) in_crane tyX2 tyX2_ok nmX2 rfl rfl m_104 rfl (by decide +kernel) rfl rfl (Nat.le_of_ble_eq_true rfl) dX2_init_9 (fun H locs wo => ?_)
  have wo : Wo G A s.heap H locs [(a, .inr (2, [.int 0, .ref q1, .null, .int 0, .int 0, .int 0])), (q1, .inl (G.2 0, 8, .inl (fun _ => 0)))] := wo
  refine lv_aload_n hx hb dX2_init_12 rfl (lv_at hl 0 rfl) ?_
  refine lv_bipush (v := 8) hx hb dX2_init_13 (by decide) ?_
  refine narr_i (N := 8) cx wo m_126 rfl (by decide) (by decide) (by decide) dX2_init_15 (fun q2 H wo => ?_)
  have wo : Wo G A s.heap H locs [(a, .inr (2, [.int 0, .ref q1, .null, .int 0, .int 0, .int 0])), (q1, .inl (G.2 0, 8, .inl (fun _ => 0))), (q2, .inl (G.2 0, 8, .inl (fun _ => 0)))] := wo
  refine pthF (k := 2) (ty := .array .int) cx wo rfl (by decide) in_crane tyX2 tyX2_ok nmX2 rfl rfl m_105 rfl (by decide +kernel) rfl rfl (Nat.le_of_ble_eq_true rfl) dX2_init_17 (fun H locs wo => ?_)
  have wo : Wo G A s.heap H locs [(a, .inr (2, [.int 0, .ref q1, .ref q2, .int 0, .int 0, .int 0])), (q1, .inl (G.2 0, 8, .inl (fun _ => 0))), (q2, .inl (G.2 0, 8, .inl (fun _ => 0)))] := wo
  refine lv_aload_n hx hb dX2_init_20 rfl (lv_at hl 0 rfl) ?_
  refine lv_iload_n hx hb dX2_init_21 rfl (lv_at hl 1 rfl) ?_
  refine pthF (k := 0) (ty := .int) cx wo rfl (by decide) in_crane tyX2 tyX2_ok nmX2 rfl rfl m_102 rfl (by decide +kernel) rfl rfl (Nat.le_of_ble_eq_true rfl) dX2_init_22 (fun H locs wo => ?_)
  have wo : Wo G A s.heap H locs [(a, .inr (2, [.int x, .ref q1, .ref q2, .int 0, .int 0, .int 0])), (q1, .inl (G.2 0, 8, .inl (fun _ => 0))), (q2, .inl (G.2 0, 8, .inl (fun _ => 0)))] := wo
  refine lv_aload_n hx hb dX2_init_25 rfl (lv_at hl 0 rfl) ?_
  refine lv_iload_n hx hb dX2_init_26 rfl (lv_at hl 2 rfl) ?_
  refine pthN (k := 3) (ty := .int) cx wo rfl (by decide) in_crane tyX2 tyX2_ok nmX2 rfl m_106 rfl (by decide +kernel) rfl rfl (Nat.le_of_ble_eq_true rfl) dX2_init_27 (fun H locs wo => ?_)
  have wo : Wo G A s.heap H locs [(a, .inr (2, [.int x, .ref q1, .ref q2, .int y, .int 0, .int 0])), (q1, .inl (G.2 0, 8, .inl (fun _ => 0))), (q2, .inl (G.2 0, 8, .inl (fun _ => 0)))] := wo
  exact r2_v cx hQ wo dX2_init_30 ⟨rfl, q1, q2, rfl⟩
abbrev rm_X1_init : Room := { frames := 2, cells := 6, slots := 24, locals := 40 }
set_option maxHeartbeats 4000000 in
set_option maxRecDepth 100000 in
theorem c_X1_init (l : Launch) (G : GG) (a : Nat) : Ct l G yX1_init cX1_init 1 (none : Option Jvm.ClassFile.FieldType) rm_X1_init [.ref a] [(a, .inr (1, [.null, .null, .null, .null, .null, .null, .int 0, .int 0, .int 0, .int 0, .int 0, .int 0]))] (fun rv W1 => rv = none ∧ ∃ q51 q52 q53 q54 q55 q56 : Nat, W1 = [(a, .inr (1, [.ref q51, .ref q52, .ref q53, .ref q54, .ref q55, .ref q56, .int 0, .int 0, .int 0, .int 0, .int 0, .int 0])), (q51, .inr (4, [.int 0, .int 0, .int 0, .int 0])), (q52, .inr (4, [.int 0, .int 0, .int 0, .int 0])), (q53, .inr (4, [.int 0, .int 0, .int 0, .int 0])), (q54, .inr (4, [.int 0, .int 0, .int 0, .int 0])), (q55, .inr (4, [.int 0, .int 0, .int 0, .int 0])), (q56, .inr (4, [.int 0, .int 0, .int 0, .int 0]))]) := by
  refine Ct.mk2 (by decide) (Nat.le_of_ble_eq_true rfl) ?_
  intro p e s m args below meth c A H locs ls Q cx wo hl hQ
  obtain ⟨hx, hb, hml, hr, hlo, hown, hts, hnm, kn, hA⟩ := id cx
  have hl : lv_has ls 1 [(0, .ref a)] := hl
  refine lv_aload_n hx hb dX1_init_0 rfl (lv_at hl 0 rfl) ?_
  refine objI cx m_132 m_54 m_55 hl.1 dX1_init_1 (by decide) (Nat.le_of_ble_eq_true rfl) ?_
  refine lv_aload_n hx hb dX1_init_4 rfl (lv_at hl 0 rfl) ?_
  refine nobj (ci := 4) (fs := [.int 0, .int 0, .int 0, .int 0]) cx wo in_stuff tyX4 tyX4_ok m_133 m_63 m_41 rfl (fun j hj => by rcases (show j = 0 ∨ j = 1 ∨ j = 2 ∨ j = 3 by omega) with rfl | rfl | rfl | rfl <;> rfl) (by decide) (by decide) dX1_init_5 (fun q1 H wo => ?_)
  have wo : Wo G A s.heap H locs [(a, .inr (1, [.null, .null, .null, .null, .null, .null, .int 0, .int 0, .int 0, .int 0, .int 0, .int 0])), (q1, .inr (4, [.int 0, .int 0, .int 0, .int 0]))] := wo
  refine lv_dup hx hb dX1_init_8 rfl ?_
  refine call_IN (host := "HotAisle") (As := []) (rest := [.ref q1, .ref a]) (fun X => [(a, .inr (1, [.null, .null, .null, .null, .null, .null, .int 0, .int 0, .int 0, .int 0, .int 0, .int 0]))] ++ X) (Fr_r _) cx (c_X4_init l G q1) fx_X4_init (by decide) m_65 rfl ⟨by decide, by decide⟩ wo rfl hl.1 rfl (Nat.le_of_ble_eq_true rfl) dX1_init_9 ⟨by decide, by decide⟩ (fun v W1 H locs hp wo => ?_)
  obtain ⟨rfl, rfl⟩ := hp
  have wo : Wo G A s.heap H locs [(a, .inr (1, [.null, .null, .null, .null, .null, .null, .int 0, .int 0, .int 0, .int 0, .int 0, .int 0])), (q1, .inr (4, [.int 0, .int 0, .int 0, .int 0]))] := wo
  refine nrm_v ?_
  refine pthF (k := 0) (ty := .object "HotAisle$Stuff") cx wo rfl (by decide) in_books tyX1 tyX1_ok nmX1 rfl rfl m_135 rfl (by decide +kernel) rfl rfl (Nat.le_of_ble_eq_true rfl) dX1_init_12 (fun H locs wo => ?_)
  have wo : Wo G A s.heap H locs [(a, .inr (1, [.ref q1, .null, .null, .null, .null, .null, .int 0, .int 0, .int 0, .int 0, .int 0, .int 0])), (q1, .inr (4, [.int 0, .int 0, .int 0, .int 0]))] := wo
  refine lv_aload_n hx hb dX1_init_15 rfl (lv_at hl 0 rfl) ?_
  refine nobj (ci := 4) (fs := [.int 0, .int 0, .int 0, .int 0]) cx wo in_stuff tyX4 tyX4_ok m_133 m_63 m_41 rfl (fun j hj => by rcases (show j = 0 ∨ j = 1 ∨ j = 2 ∨ j = 3 by omega) with rfl | rfl | rfl | rfl <;> rfl) (by decide) (by decide) dX1_init_16 (fun q2 H wo => ?_)
  have wo : Wo G A s.heap H locs [(a, .inr (1, [.ref q1, .null, .null, .null, .null, .null, .int 0, .int 0, .int 0, .int 0, .int 0, .int 0])), (q1, .inr (4, [.int 0, .int 0, .int 0, .int 0])), (q2, .inr (4, [.int 0, .int 0, .int 0, .int 0]))] := wo
  refine lv_dup hx hb dX1_init_19 rfl ?_
  refine call_IN (host := "HotAisle") (As := []) (rest := [.ref q2, .ref a]) (fun X => [(a, .inr (1, [.ref q1, .null, .null, .null, .null, .null, .int 0, .int 0, .int 0, .int 0, .int 0, .int 0])), (q1, .inr (4, [.int 0, .int 0, .int 0, .int 0]))] ++ X) (Fr_r _) cx (c_X4_init l G q2) fx_X4_init (by decide) m_65 rfl ⟨by decide, by decide⟩ wo rfl hl.1 rfl (Nat.le_of_ble_eq_true rfl) dX1_init_20 ⟨by decide, by decide⟩ (fun v W1 H locs hp wo => ?_)
  obtain ⟨rfl, rfl⟩ := hp
  have wo : Wo G A s.heap H locs [(a, .inr (1, [.ref q1, .null, .null, .null, .null, .null, .int 0, .int 0, .int 0, .int 0, .int 0, .int 0])), (q1, .inr (4, [.int 0, .int 0, .int 0, .int 0])), (q2, .inr (4, [.int 0, .int 0, .int 0, .int 0]))] := wo
  refine nrm_v ?_
  refine pthF (k := 1) (ty := .object "HotAisle$Stuff") cx wo rfl (by decide) in_books tyX1 tyX1_ok nmX1 rfl rfl m_137 rfl (by decide +kernel) rfl rfl (Nat.le_of_ble_eq_true rfl) dX1_init_23 (fun H locs wo => ?_)
  have wo : Wo G A s.heap H locs [(a, .inr (1, [.ref q1, .ref q2, .null, .null, .null, .null, .int 0, .int 0, .int 0, .int 0, .int 0, .int 0])), (q1, .inr (4, [.int 0, .int 0, .int 0, .int 0])), (q2, .inr (4, [.int 0, .int 0, .int 0, .int 0]))] := wo
  refine lv_aload_n hx hb dX1_init_26 rfl (lv_at hl 0 rfl) ?_
  refine nobj (ci := 4) (fs := [.int 0, .int 0, .int 0, .int 0]) cx wo in_stuff tyX4 tyX4_ok m_133 m_63 m_41 rfl (fun j hj => by rcases (show j = 0 ∨ j = 1 ∨ j = 2 ∨ j = 3 by omega) with rfl | rfl | rfl | rfl <;> rfl) (by decide) (by decide) dX1_init_27 (fun q3 H wo => ?_)
  have wo : Wo G A s.heap H locs [(a, .inr (1, [.ref q1, .ref q2, .null, .null, .null, .null, .int 0, .int 0, .int 0, .int 0, .int 0, .int 0])), (q1, .inr (4, [.int 0, .int 0, .int 0, .int 0])), (q2, .inr (4, [.int 0, .int 0, .int 0, .int 0])), (q3, .inr (4, [.int 0, .int 0, .int 0, .int 0]))] := wo
  refine lv_dup hx hb dX1_init_30 rfl ?_
  refine call_IN (host := "HotAisle") (As := []) (rest := [.ref q3, .ref a]) (fun X => [(a, .inr (1, [.ref q1, .ref q2, .null, .null, .null, .null, .int 0, .int 0, .int 0, .int 0, .int 0, .int 0])), (q1, .inr (4, [.int 0, .int 0, .int 0, .int 0])), (q2, .inr (4, [.int 0, .int 0, .int 0, .int 0]))] ++ X) (Fr_r _) cx (c_X4_init l G q3) fx_X4_init (by decide) m_65 rfl ⟨by decide, by decide⟩ wo rfl hl.1 rfl (Nat.le_of_ble_eq_true rfl) dX1_init_31 ⟨by decide, by decide⟩ (fun v W1 H locs hp wo => ?_)
  obtain ⟨rfl, rfl⟩ := hp
  have wo : Wo G A s.heap H locs [(a, .inr (1, [.ref q1, .ref q2, .null, .null, .null, .null, .int 0, .int 0, .int 0, .int 0, .int 0, .int 0])), (q1, .inr (4, [.int 0, .int 0, .int 0, .int 0])), (q2, .inr (4, [.int 0, .int 0, .int 0, .int 0])), (q3, .inr (4, [.int 0, .int 0, .int 0, .int 0]))] := wo
  refine nrm_v ?_
  refine pthF (k := 2) (ty := .object "HotAisle$Stuff") cx wo rfl (by decide) in_books tyX1 tyX1_ok nmX1 rfl rfl m_139 rfl (by decide +kernel) rfl rfl (Nat.le_of_ble_eq_true rfl) dX1_init_34 (fun H locs wo => ?_)
  have wo : Wo G A s.heap H locs [(a, .inr (1, [.ref q1, .ref q2, .ref q3, .null, .null, .null, .int 0, .int 0, .int 0, .int 0, .int 0, .int 0])), (q1, .inr (4, [.int 0, .int 0, .int 0, .int 0])), (q2, .inr (4, [.int 0, .int 0, .int 0, .int 0])), (q3, .inr (4, [.int 0, .int 0, .int 0, .int 0]))] := wo
  refine lv_aload_n hx hb dX1_init_37 rfl (lv_at hl 0 rfl) ?_
  refine nobj (ci := 4) (fs := [.int 0, .int 0, .int 0, .int 0]) cx wo in_stuff tyX4 tyX4_ok m_133 m_63 m_41 rfl (fun j hj => by rcases (show j = 0 ∨ j = 1 ∨ j = 2 ∨ j = 3 by omega) with rfl | rfl | rfl | rfl <;> rfl) (by decide) (by decide) dX1_init_38 (fun q4 H wo => ?_)
  have wo : Wo G A s.heap H locs [(a, .inr (1, [.ref q1, .ref q2, .ref q3, .null, .null, .null, .int 0, .int 0, .int 0, .int 0, .int 0, .int 0])), (q1, .inr (4, [.int 0, .int 0, .int 0, .int 0])), (q2, .inr (4, [.int 0, .int 0, .int 0, .int 0])), (q3, .inr (4, [.int 0, .int 0, .int 0, .int 0])), (q4, .inr (4, [.int 0, .int 0, .int 0, .int 0]))] := wo
  refine lv_dup hx hb dX1_init_41 rfl ?_
  refine call_IN (host := "HotAisle") (As := []) (rest := [.ref q4, .ref a]) (fun X => [(a, .inr (1, [.ref q1, .ref q2, .ref q3, .null, .null, .null, .int 0, .int 0, .int 0, .int 0, .int 0, .int 0])), (q1, .inr (4, [.int 0, .int 0, .int 0, .int 0])), (q2, .inr (4, [.int 0, .int 0, .int 0, .int 0])), (q3, .inr (4, [.int 0, .int 0, .int 0, .int 0]))] ++ X) (Fr_r _) cx (c_X4_init l G q4) fx_X4_init (by decide) m_65 rfl ⟨by decide, by decide⟩ wo rfl hl.1 rfl (Nat.le_of_ble_eq_true rfl) dX1_init_42 ⟨by decide, by decide⟩ (fun v W1 H locs hp wo => ?_)
  obtain ⟨rfl, rfl⟩ := hp
  have wo : Wo G A s.heap H locs [(a, .inr (1, [.ref q1, .ref q2, .ref q3, .null, .null, .null, .int 0, .int 0, .int 0, .int 0, .int 0, .int 0])), (q1, .inr (4, [.int 0, .int 0, .int 0, .int 0])), (q2, .inr (4, [.int 0, .int 0, .int 0, .int 0])), (q3, .inr (4, [.int 0, .int 0, .int 0, .int 0])), (q4, .inr (4, [.int 0, .int 0, .int 0, .int 0]))] := wo
  refine nrm_v ?_
  refine pthF (k := 3) (ty := .object "HotAisle$Stuff") cx wo rfl (by decide) in_books tyX1 tyX1_ok nmX1 rfl rfl m_141 rfl (by decide +kernel) rfl rfl (Nat.le_of_ble_eq_true rfl) dX1_init_45 (fun H locs wo => ?_)
  have wo : Wo G A s.heap H locs [(a, .inr (1, [.ref q1, .ref q2, .ref q3, .ref q4, .null, .null, .int 0, .int 0, .int 0, .int 0, .int 0, .int 0])), (q1, .inr (4, [.int 0, .int 0, .int 0, .int 0])), (q2, .inr (4, [.int 0, .int 0, .int 0, .int 0])), (q3, .inr (4, [.int 0, .int 0, .int 0, .int 0])), (q4, .inr (4, [.int 0, .int 0, .int 0, .int 0]))] := wo
  refine lv_aload_n hx hb dX1_init_48 rfl (lv_at hl 0 rfl) ?_
  refine nobj (ci := 4) (fs := [.int 0, .int 0, .int 0, .int 0]) cx wo in_stuff tyX4 tyX4_ok m_133 m_63 m_41 rfl (fun j hj => by rcases (show j = 0 ∨ j = 1 ∨ j = 2 ∨ j = 3 by omega) with rfl | rfl | rfl | rfl <;> rfl) (by decide) (by decide) dX1_init_49 (fun q5 H wo => ?_)
  have wo : Wo G A s.heap H locs [(a, .inr (1, [.ref q1, .ref q2, .ref q3, .ref q4, .null, .null, .int 0, .int 0, .int 0, .int 0, .int 0, .int 0])), (q1, .inr (4, [.int 0, .int 0, .int 0, .int 0])), (q2, .inr (4, [.int 0, .int 0, .int 0, .int 0])), (q3, .inr (4, [.int 0, .int 0, .int 0, .int 0])), (q4, .inr (4, [.int 0, .int 0, .int 0, .int 0])), (q5, .inr (4, [.int 0, .int 0, .int 0, .int 0]))] := wo
  refine lv_dup hx hb dX1_init_52 rfl ?_
  refine call_IN (host := "HotAisle") (As := []) (rest := [.ref q5, .ref a]) (fun X => [(a, .inr (1, [.ref q1, .ref q2, .ref q3, .ref q4, .null, .null, .int 0, .int 0, .int 0, .int 0, .int 0, .int 0])), (q1, .inr (4, [.int 0, .int 0, .int 0, .int 0])), (q2, .inr (4, [.int 0, .int 0, .int 0, .int 0])), (q3, .inr (4, [.int 0, .int 0, .int 0, .int 0])), (q4, .inr (4, [.int 0, .int 0, .int 0, .int 0]))] ++ X) (Fr_r _) cx (c_X4_init l G q5) fx_X4_init (by decide) m_65 rfl ⟨by decide, by decide⟩ wo rfl hl.1 rfl (Nat.le_of_ble_eq_true rfl) dX1_init_53 ⟨by decide, by decide⟩ (fun v W1 H locs hp wo => ?_)
  obtain ⟨rfl, rfl⟩ := hp
  have wo : Wo G A s.heap H locs [(a, .inr (1, [.ref q1, .ref q2, .ref q3, .ref q4, .null, .null, .int 0, .int 0, .int 0, .int 0, .int 0, .int 0])), (q1, .inr (4, [.int 0, .int 0, .int 0, .int 0])), (q2, .inr (4, [.int 0, .int 0, .int 0, .int 0])), (q3, .inr (4, [.int 0, .int 0, .int 0, .int 0])), (q4, .inr (4, [.int 0, .int 0, .int 0, .int 0])), (q5, .inr (4, [.int 0, .int 0, .int 0, .int 0]))] := wo
  refine nrm_v ?_
  refine pthF (k := 4) (ty := .object "HotAisle$Stuff") cx wo rfl (by decide) in_books tyX1 tyX1_ok nmX1 rfl rfl m_144 rfl (by decide +kernel) rfl rfl (Nat.le_of_ble_eq_true rfl) dX1_init_56 (fun H locs wo => ?_)
  have wo : Wo G A s.heap H locs [(a, .inr (1, [.ref q1, .ref q2, .ref q3, .ref q4, .ref q5, .null, .int 0, .int 0, .int 0, .int 0, .int 0, .int 0])), (q1, .inr (4, [.int 0, .int 0, .int 0, .int 0])), (q2, .inr (4, [.int 0, .int 0, .int 0, .int 0])), (q3, .inr (4, [.int 0, .int 0, .int 0, .int 0])), (q4, .inr (4, [.int 0, .int 0, .int 0, .int 0])), (q5, .inr (4, [.int 0, .int 0, .int 0, .int 0]))] := wo
  refine lv_aload_n hx hb dX1_init_59 rfl (lv_at hl 0 rfl) ?_
  refine nobj (ci := 4) (fs := [.int 0, .int 0, .int 0, .int 0]) cx wo in_stuff tyX4 tyX4_ok m_133 m_63 m_41 rfl (fun j hj => by rcases (show j = 0 ∨ j = 1 ∨ j = 2 ∨ j = 3 by omega) with rfl | rfl | rfl | rfl <;> rfl) (by decide) (by decide) dX1_init_60 (fun q6 H wo => ?_)
  have wo : Wo G A s.heap H locs [(a, .inr (1, [.ref q1, .ref q2, .ref q3, .ref q4, .ref q5, .null, .int 0, .int 0, .int 0, .int 0, .int 0, .int 0])), (q1, .inr (4, [.int 0, .int 0, .int 0, .int 0])), (q2, .inr (4, [.int 0, .int 0, .int 0, .int 0])), (q3, .inr (4, [.int 0, .int 0, .int 0, .int 0])), (q4, .inr (4, [.int 0, .int 0, .int 0, .int 0])), (q5, .inr (4, [.int 0, .int 0, .int 0, .int 0])), (q6, .inr (4, [.int 0, .int 0, .int 0, .int 0]))] := wo
  refine lv_dup hx hb dX1_init_63 rfl ?_
  refine call_IN (host := "HotAisle") (As := []) (rest := [.ref q6, .ref a]) (fun X => [(a, .inr (1, [.ref q1, .ref q2, .ref q3, .ref q4, .ref q5, .null, .int 0, .int 0, .int 0, .int 0, .int 0, .int 0])), (q1, .inr (4, [.int 0, .int 0, .int 0, .int 0])), (q2, .inr (4, [.int 0, .int 0, .int 0, .int 0])), (q3, .inr (4, [.int 0, .int 0, .int 0, .int 0])), (q4, .inr (4, [.int 0, .int 0, .int 0, .int 0])), (q5, .inr (4, [.int 0, .int 0, .int 0, .int 0]))] ++ X) (Fr_r _) cx (c_X4_init l G q6) fx_X4_init (by decide) m_65 rfl ⟨by decide, by decide⟩ wo rfl hl.1 rfl (Nat.le_of_ble_eq_true rfl) dX1_init_64 ⟨by decide, by decide⟩ (fun v W1 H locs hp wo => ?_)
  obtain ⟨rfl, rfl⟩ := hp
  have wo : Wo G A s.heap H locs [(a, .inr (1, [.ref q1, .ref q2, .ref q3, .ref q4, .ref q5, .null, .int 0, .int 0, .int 0, .int 0, .int 0, .int 0])), (q1, .inr (4, [.int 0, .int 0, .int 0, .int 0])), (q2, .inr (4, [.int 0, .int 0, .int 0, .int 0])), (q3, .inr (4, [.int 0, .int 0, .int 0, .int 0])), (q4, .inr (4, [.int 0, .int 0, .int 0, .int 0])), (q5, .inr (4, [.int 0, .int 0, .int 0, .int 0])), (q6, .inr (4, [.int 0, .int 0, .int 0, .int 0]))] := wo
  refine nrm_v ?_
  refine pthF (k := 5) (ty := .object "HotAisle$Stuff") cx wo rfl (by decide) in_books tyX1 tyX1_ok nmX1 rfl rfl m_146 rfl (by decide +kernel) rfl rfl (Nat.le_of_ble_eq_true rfl) dX1_init_67 (fun H locs wo => ?_)
  have wo : Wo G A s.heap H locs [(a, .inr (1, [.ref q1, .ref q2, .ref q3, .ref q4, .ref q5, .ref q6, .int 0, .int 0, .int 0, .int 0, .int 0, .int 0])), (q1, .inr (4, [.int 0, .int 0, .int 0, .int 0])), (q2, .inr (4, [.int 0, .int 0, .int 0, .int 0])), (q3, .inr (4, [.int 0, .int 0, .int 0, .int 0])), (q4, .inr (4, [.int 0, .int 0, .int 0, .int 0])), (q5, .inr (4, [.int 0, .int 0, .int 0, .int 0])), (q6, .inr (4, [.int 0, .int 0, .int 0, .int 0]))] := wo
  exact r2_v cx hQ wo dX1_init_70 ⟨rfl, q1, q2, q3, q4, q5, q6, rfl⟩
