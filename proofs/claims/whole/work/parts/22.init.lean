/-! printed walks: the aisle, the reference and the class come into being -/
def g0 : St := fun i => if i = 76 then 1150 else if i = 77 then 1150 else if i = 78 then 1150 else if i = 88 then 1 else if i = 89 then 6 else if i = 90 then 10 else if i = 91 then 14 else if i = 92 then (-4) else if i = 93 then (-4) else if i = 94 then (-4) else if i = 95 then (-4) else if i = 100 then 3 else if i = 101 then 11 else if i = 148 then 12 else 0
theorem g0_row (i : Nat) (h : 108 ≤ i) (h2 : i < 140) : g0 i = 0 := by
  unfold g0
  (repeat' (refine itl (fun h1 => ?_) (fun h1 => ?_))) <;> first | rfl | (exfalso; omega)
theorem ac_row (G : GG) (ad : Nat → Nat) {j : Nat} (h : 31 ≤ j) (h2 : j < 35) : ac G ad g0 j = .inl (G.2 0, 8, .inl (fun _ => 0)) := by
  by_cases hj : j < 33
  · obtain ⟨c, rfl⟩ : ∃ c, j = 31 + c := ⟨j - 31, by omega⟩
    rw [ac_wh G ad g0 (by omega)]
    refine congrArg (fun z => Sum.inl (G.2 0, 8, Sum.inl z)) (funext fun i => ?_)
    by_cases hi : i < 8
    · rw [if_pos hi, g0_row _ (by omega) (by omega)]
    · rw [if_neg hi]
  · obtain ⟨c, rfl⟩ : ∃ c, j = 33 + c := ⟨j - 33, by omega⟩
    rw [ac_tg G ad g0 (by omega)]
    refine congrArg (fun z => Sum.inl (G.2 0, 8, Sum.inl z)) (funext fun i => ?_)
    by_cases hi : i < 8
    · rw [if_pos hi, g0_row _ (by omega) (by omega)]
    · rw [if_neg hi]
abbrev rm_X0_init : Room := { frames := 3, cells := 34, slots := 173, locals := 61 }
theorem x0_perm : ([12, 0, 29, 30, 26, 31, 33, 27, 32, 34, 28, 13, 14, 15, 16, 17, 18, 19, 1, 20, 2, 21, 3, 22, 4, 8, 23, 5, 9, 24, 6, 10, 25, 7, 11] : List Nat).Perm (List.range 35) := by decide +kernel
set_option maxHeartbeats 4000000 in
set_option maxRecDepth 100000 in
theorem c_X0_init (l : Launch) (G : GG) (a : Nat) : CtS l G yX0_init cX0_init 2 (none : Option Jvm.ClassFile.FieldType) rm_X0_init [.ref a] [(a, .inr (0, [.null, .null, .null, .null, .null, .null, .int 0, .int 0, .int 0]))] (fun rv W1 => rv = none ∧ ∃ ad : Nat → Nat, ad 12 = a ∧ W1.Perm (aw G ad g0)) := by
  refine CtS.mk2 (by decide) (Nat.le_of_ble_eq_true rfl) ?_
  intro p e s m args below meth c A H locs ls Q cx hSF wo hl hQ
  obtain ⟨hx, hb, hml, hr, hlo, hown, hts, hnm, kn, hA⟩ := id cx
  obtain ⟨⟨t1, hZ1, hT1⟩, t2, hZ2, hT2⟩ := hSF
  have hl : lv_has ls 2 [(0, .ref a)] := hl
  refine lv_aload_n hx hb dX0_init_0 rfl (lv_at hl 0 rfl) ?_
  refine objI cx m_61 m_54 m_55 hl.1 dX0_init_1 (by decide) (Nat.le_of_ble_eq_true rfl) ?_
  refine lv_aload_n hx hb dX0_init_4 rfl (lv_at hl 0 rfl) ?_
  refine nobj (ci := 4) (fs := [.int 0, .int 0, .int 0, .int 0]) cx wo in_stuff tyX4 tyX4_ok m_62 m_63 m_41 rfl (fun j hj => by rcases (show j = 0 ∨ j = 1 ∨ j = 2 ∨ j = 3 by omega) with rfl | rfl | rfl | rfl <;> rfl) (by decide) (by decide) dX0_init_5 (fun q1 H wo => ?_)
  have wo : Wo G A s.heap H locs [(a, .inr (0, [.null, .null, .null, .null, .null, .null, .int 0, .int 0, .int 0])), (q1, .inr (4, [.int 0, .int 0, .int 0, .int 0]))] := wo
  refine lv_dup hx hb dX0_init_8 rfl ?_
  refine call_IN (host := "HotAisle") (As := []) (rest := [.ref q1, .ref a]) (fun X => [(a, .inr (0, [.null, .null, .null, .null, .null, .null, .int 0, .int 0, .int 0]))] ++ X) (Fr_r _) cx (c_X4_init l G q1) fx_X4_init (by decide) m_65 rfl ⟨by decide, by decide⟩ wo rfl hl.1 rfl (Nat.le_of_ble_eq_true rfl) dX0_init_9 ⟨by decide, by decide⟩ (fun v W1 H locs hp wo => ?_)
  obtain ⟨rfl, rfl⟩ := hp
  have wo : Wo G A s.heap H locs [(a, .inr (0, [.null, .null, .null, .null, .null, .null, .int 0, .int 0, .int 0])), (q1, .inr (4, [.int 0, .int 0, .int 0, .int 0]))] := wo
  refine nrm_v ?_
  refine pthF (k := 0) (ty := .object "HotAisle$Stuff") cx wo rfl (by decide) in_aisle tyX0 tyX0_ok nmX0 rfl rfl m_250 rfl (by decide +kernel) rfl rfl (Nat.le_of_ble_eq_true rfl) dX0_init_12 (fun H locs wo => ?_)
  have wo : Wo G A s.heap H locs [(a, .inr (0, [.ref q1, .null, .null, .null, .null, .null, .int 0, .int 0, .int 0])), (q1, .inr (4, [.int 0, .int 0, .int 0, .int 0]))] := wo
  refine lv_aload_n hx hb dX0_init_15 rfl (lv_at hl 0 rfl) ?_
  refine va_getsN hx hb hZ1 wo.2.2 hown (va_Nw.use rfl kn.2.2.1) (fun _ h => h) dX0_init_16 ?_
  refine va_tlen hx hb hT1 wo.2.2 (v := 3) rfl dX0_init_19 ?_
  refine narr_q (N := 3) (t0 := 1) cx wo m_90 kn.2.2.2.2.1 rfl rfl (by decide) (by decide) (by decide) dX0_init_20 (fun q2 H wo => ?_)
  have wo : Wo G A s.heap H locs [(a, .inr (0, [.ref q1, .null, .null, .null, .null, .null, .int 0, .int 0, .int 0])), (q1, .inr (4, [.int 0, .int 0, .int 0, .int 0])), (q2, .inl (G.2 1, 3, .inr (.inr (.inr (.inr (fun _ => none))))))] := wo
  refine pthF (k := 1) (ty := .array (.object "HotAisle$Vessel")) cx wo rfl (by decide) in_aisle tyX0 tyX0_ok nmX0 rfl rfl m_251 rfl (by decide +kernel) rfl rfl (Nat.le_of_ble_eq_true rfl) dX0_init_23 (fun H locs wo => ?_)
  have wo : Wo G A s.heap H locs [(a, .inr (0, [.ref q1, .ref q2, .null, .null, .null, .null, .int 0, .int 0, .int 0])), (q1, .inr (4, [.int 0, .int 0, .int 0, .int 0])), (q2, .inl (G.2 1, 3, .inr (.inr (.inr (.inr (fun _ => none))))))] := wo
  refine lv_aload_n hx hb dX0_init_26 rfl (lv_at hl 0 rfl) ?_
  refine va_getsN hx hb hZ2 wo.2.2 hown (va_Nw.use rfl kn.2.2.2.1) (fun _ h => h) dX0_init_27 ?_
  refine va_tlen hx hb hT2 wo.2.2 (v := 4) rfl dX0_init_30 ?_
  refine narr_q (N := 4) (t0 := 2) cx wo m_94 kn.2.2.2.2.2.1 rfl rfl (by decide) (by decide) (by decide) dX0_init_31 (fun q3 H wo => ?_)
  have wo : Wo G A s.heap H locs [(a, .inr (0, [.ref q1, .ref q2, .null, .null, .null, .null, .int 0, .int 0, .int 0])), (q1, .inr (4, [.int 0, .int 0, .int 0, .int 0])), (q2, .inl (G.2 1, 3, .inr (.inr (.inr (.inr (fun _ => none)))))), (q3, .inl (G.2 2, 4, .inr (.inr (.inr (.inr (fun _ => none))))))] := wo
  refine pthF (k := 2) (ty := .array (.object "HotAisle$Ladle")) cx wo rfl (by decide) in_aisle tyX0 tyX0_ok nmX0 rfl rfl m_252 rfl (by decide +kernel) rfl rfl (Nat.le_of_ble_eq_true rfl) dX0_init_34 (fun H locs wo => ?_)
  have wo : Wo G A s.heap H locs [(a, .inr (0, [.ref q1, .ref q2, .ref q3, .null, .null, .null, .int 0, .int 0, .int 0])), (q1, .inr (4, [.int 0, .int 0, .int 0, .int 0])), (q2, .inl (G.2 1, 3, .inr (.inr (.inr (.inr (fun _ => none)))))), (q3, .inl (G.2 2, 4, .inr (.inr (.inr (.inr (fun _ => none))))))] := wo
  refine lv_aload_n hx hb dX0_init_37 rfl (lv_at hl 0 rfl) ?_
  refine nobj (ci := 2) (fs := [.int 0, .null, .null, .int 0, .int 0, .int 0]) cx wo in_crane tyX2 tyX2_ok m_96 m_97 m_42 rfl (fun j hj => by rcases (show j = 0 ∨ j = 1 ∨ j = 2 ∨ j = 3 ∨ j = 4 ∨ j = 5 by omega) with rfl | rfl | rfl | rfl | rfl | rfl <;> rfl) (by decide) (by decide) dX0_init_38 (fun q4 H wo => ?_)
  have wo : Wo G A s.heap H locs [(a, .inr (0, [.ref q1, .ref q2, .ref q3, .null, .null, .null, .int 0, .int 0, .int 0])), (q1, .inr (4, [.int 0, .int 0, .int 0, .int 0])), (q2, .inl (G.2 1, 3, .inr (.inr (.inr (.inr (fun _ => none)))))), (q3, .inl (G.2 2, 4, .inr (.inr (.inr (.inr (fun _ => none)))))), (q4, .inr (2, [.int 0, .null, .null, .int 0, .int 0, .int 0]))] := wo
  refine lv_dup hx hb dX0_init_41 rfl ?_
  refine lv_iconst (v := 0) hx hb dX0_init_42 (by decide) ?_
  refine lv_iconst (v := 3) hx hb dX0_init_43 (by decide) ?_
  refine call_I (As := [.int 0, .int 3]) (rest := [.ref q4, .ref a]) (fun X => [(a, .inr (0, [.ref q1, .ref q2, .ref q3, .null, .null, .null, .int 0, .int 0, .int 0])), (q1, .inr (4, [.int 0, .int 0, .int 0, .int 0])), (q2, .inl (G.2 1, 3, .inr (.inr (.inr (.inr (fun _ => none)))))), (q3, .inl (G.2 2, 4, .inr (.inr (.inr (.inr (fun _ => none))))))] ++ X) (Fr_r _) cx (c_X2_init l G q4 0 3) fx_X2_init m_98 m_99 rfl ⟨by decide, by decide⟩ wo rfl hl.1 rfl (Nat.le_of_ble_eq_true rfl) dX0_init_44 ⟨by decide, by decide⟩ (fun v W1 H locs hp wo => ?_)
  obtain ⟨rfl, q5, q6, rfl⟩ := hp
  have wo : Wo G A s.heap H locs [(a, .inr (0, [.ref q1, .ref q2, .ref q3, .null, .null, .null, .int 0, .int 0, .int 0])), (q1, .inr (4, [.int 0, .int 0, .int 0, .int 0])), (q2, .inl (G.2 1, 3, .inr (.inr (.inr (.inr (fun _ => none)))))), (q3, .inl (G.2 2, 4, .inr (.inr (.inr (.inr (fun _ => none)))))), (q4, .inr (2, [.int 0, .ref q5, .ref q6, .int 3, .int 0, .int 0])), (q5, .inl (G.2 0, 8, .inl (fun _ => 0))), (q6, .inl (G.2 0, 8, .inl (fun _ => 0)))] := wo
  refine nrm_v ?_
  refine pthF (k := 3) (ty := .object "HotAisle$Crane") cx wo rfl (by decide) in_aisle tyX0 tyX0_ok nmX0 rfl rfl m_253 rfl (by decide +kernel) rfl rfl (Nat.le_of_ble_eq_true rfl) dX0_init_47 (fun H locs wo => ?_)
  have wo : Wo G A s.heap H locs [(a, .inr (0, [.ref q1, .ref q2, .ref q3, .ref q4, .null, .null, .int 0, .int 0, .int 0])), (q1, .inr (4, [.int 0, .int 0, .int 0, .int 0])), (q2, .inl (G.2 1, 3, .inr (.inr (.inr (.inr (fun _ => none)))))), (q3, .inl (G.2 2, 4, .inr (.inr (.inr (.inr (fun _ => none)))))), (q4, .inr (2, [.int 0, .ref q5, .ref q6, .int 3, .int 0, .int 0])), (q5, .inl (G.2 0, 8, .inl (fun _ => 0))), (q6, .inl (G.2 0, 8, .inl (fun _ => 0)))] := wo
  refine lv_aload_n hx hb dX0_init_50 rfl (lv_at hl 0 rfl) ?_
  refine nobj (ci := 2) (fs := [.int 0, .null, .null, .int 0, .int 0, .int 0]) cx wo in_crane tyX2 tyX2_ok m_96 m_97 m_42 rfl (fun j hj => by rcases (show j = 0 ∨ j = 1 ∨ j = 2 ∨ j = 3 ∨ j = 4 ∨ j = 5 by omega) with rfl | rfl | rfl | rfl | rfl | rfl <;> rfl) (by decide) (by decide) dX0_init_51 (fun q7 H wo => ?_)
  have wo : Wo G A s.heap H locs [(a, .inr (0, [.ref q1, .ref q2, .ref q3, .ref q4, .null, .null, .int 0, .int 0, .int 0])), (q1, .inr (4, [.int 0, .int 0, .int 0, .int 0])), (q2, .inl (G.2 1, 3, .inr (.inr (.inr (.inr (fun _ => none)))))), (q3, .inl (G.2 2, 4, .inr (.inr (.inr (.inr (fun _ => none)))))), (q4, .inr (2, [.int 0, .ref q5, .ref q6, .int 3, .int 0, .int 0])), (q5, .inl (G.2 0, 8, .inl (fun _ => 0))), (q6, .inl (G.2 0, 8, .inl (fun _ => 0))), (q7, .inr (2, [.int 0, .null, .null, .int 0, .int 0, .int 0]))] := wo
  refine lv_dup hx hb dX0_init_54 rfl ?_
  refine lv_iconst (v := 1) hx hb dX0_init_55 (by decide) ?_
  refine lv_bipush (v := 11) hx hb dX0_init_56 (by decide) ?_
  refine call_I (As := [.int 1, .int 11]) (rest := [.ref q7, .ref a]) (fun X => [(a, .inr (0, [.ref q1, .ref q2, .ref q3, .ref q4, .null, .null, .int 0, .int 0, .int 0])), (q1, .inr (4, [.int 0, .int 0, .int 0, .int 0])), (q2, .inl (G.2 1, 3, .inr (.inr (.inr (.inr (fun _ => none)))))), (q3, .inl (G.2 2, 4, .inr (.inr (.inr (.inr (fun _ => none)))))), (q4, .inr (2, [.int 0, .ref q5, .ref q6, .int 3, .int 0, .int 0])), (q5, .inl (G.2 0, 8, .inl (fun _ => 0))), (q6, .inl (G.2 0, 8, .inl (fun _ => 0)))] ++ X) (Fr_r _) cx (c_X2_init l G q7 1 11) fx_X2_init m_98 m_99 rfl ⟨by decide, by decide⟩ wo rfl hl.1 rfl (Nat.le_of_ble_eq_true rfl) dX0_init_58 ⟨by decide, by decide⟩ (fun v W1 H locs hp wo => ?_)
  obtain ⟨rfl, q8, q9, rfl⟩ := hp
  have wo : Wo G A s.heap H locs [(a, .inr (0, [.ref q1, .ref q2, .ref q3, .ref q4, .null, .null, .int 0, .int 0, .int 0])), (q1, .inr (4, [.int 0, .int 0, .int 0, .int 0])), (q2, .inl (G.2 1, 3, .inr (.inr (.inr (.inr (fun _ => none)))))), (q3, .inl (G.2 2, 4, .inr (.inr (.inr (.inr (fun _ => none)))))), (q4, .inr (2, [.int 0, .ref q5, .ref q6, .int 3, .int 0, .int 0])), (q5, .inl (G.2 0, 8, .inl (fun _ => 0))), (q6, .inl (G.2 0, 8, .inl (fun _ => 0))), (q7, .inr (2, [.int 1, .ref q8, .ref q9, .int 11, .int 0, .int 0])), (q8, .inl (G.2 0, 8, .inl (fun _ => 0))), (q9, .inl (G.2 0, 8, .inl (fun _ => 0)))] := wo
  refine nrm_v ?_
  refine pthF (k := 4) (ty := .object "HotAisle$Crane") cx wo rfl (by decide) in_aisle tyX0 tyX0_ok nmX0 rfl rfl m_254 rfl (by decide +kernel) rfl rfl (Nat.le_of_ble_eq_true rfl) dX0_init_61 (fun H locs wo => ?_)
  have wo : Wo G A s.heap H locs [(a, .inr (0, [.ref q1, .ref q2, .ref q3, .ref q4, .ref q7, .null, .int 0, .int 0, .int 0])), (q1, .inr (4, [.int 0, .int 0, .int 0, .int 0])), (q2, .inl (G.2 1, 3, .inr (.inr (.inr (.inr (fun _ => none)))))), (q3, .inl (G.2 2, 4, .inr (.inr (.inr (.inr (fun _ => none)))))), (q4, .inr (2, [.int 0, .ref q5, .ref q6, .int 3, .int 0, .int 0])), (q5, .inl (G.2 0, 8, .inl (fun _ => 0))), (q6, .inl (G.2 0, 8, .inl (fun _ => 0))), (q7, .inr (2, [.int 1, .ref q8, .ref q9, .int 11, .int 0, .int 0])), (q8, .inl (G.2 0, 8, .inl (fun _ => 0))), (q9, .inl (G.2 0, 8, .inl (fun _ => 0)))] := wo
  refine lv_aload_n hx hb dX0_init_64 rfl (lv_at hl 0 rfl) ?_
  refine nobj (ci := 1) (fs := [.null, .null, .null, .null, .null, .null, .int 0, .int 0, .int 0, .int 0, .int 0, .int 0]) cx wo in_books tyX1 tyX1_ok m_127 m_128 m_43 rfl (fun j hj => by rcases (show j = 0 ∨ j = 1 ∨ j = 2 ∨ j = 3 ∨ j = 4 ∨ j = 5 ∨ j = 6 ∨ j = 7 ∨ j = 8 ∨ j = 9 ∨ j = 10 ∨ j = 11 by omega) with rfl | rfl | rfl | rfl | rfl | rfl | rfl | rfl | rfl | rfl | rfl | rfl <;> rfl) (by decide) (by decide) dX0_init_65 (fun q10 H wo => ?_)
  have wo : Wo G A s.heap H locs [(a, .inr (0, [.ref q1, .ref q2, .ref q3, .ref q4, .ref q7, .null, .int 0, .int 0, .int 0])), (q1, .inr (4, [.int 0, .int 0, .int 0, .int 0])), (q2, .inl (G.2 1, 3, .inr (.inr (.inr (.inr (fun _ => none)))))), (q3, .inl (G.2 2, 4, .inr (.inr (.inr (.inr (fun _ => none)))))), (q4, .inr (2, [.int 0, .ref q5, .ref q6, .int 3, .int 0, .int 0])), (q5, .inl (G.2 0, 8, .inl (fun _ => 0))), (q6, .inl (G.2 0, 8, .inl (fun _ => 0))), (q7, .inr (2, [.int 1, .ref q8, .ref q9, .int 11, .int 0, .int 0])), (q8, .inl (G.2 0, 8, .inl (fun _ => 0))), (q9, .inl (G.2 0, 8, .inl (fun _ => 0))), (q10, .inr (1, [.null, .null, .null, .null, .null, .null, .int 0, .int 0, .int 0, .int 0, .int 0, .int 0]))] := wo
  refine lv_dup hx hb dX0_init_68 rfl ?_
  refine call_IN (host := "HotAisle") (As := []) (rest := [.ref q10, .ref a]) (fun X => [(a, .inr (0, [.ref q1, .ref q2, .ref q3, .ref q4, .ref q7, .null, .int 0, .int 0, .int 0])), (q1, .inr (4, [.int 0, .int 0, .int 0, .int 0])), (q2, .inl (G.2 1, 3, .inr (.inr (.inr (.inr (fun _ => none)))))), (q3, .inl (G.2 2, 4, .inr (.inr (.inr (.inr (fun _ => none)))))), (q4, .inr (2, [.int 0, .ref q5, .ref q6, .int 3, .int 0, .int 0])), (q5, .inl (G.2 0, 8, .inl (fun _ => 0))), (q6, .inl (G.2 0, 8, .inl (fun _ => 0))), (q7, .inr (2, [.int 1, .ref q8, .ref q9, .int 11, .int 0, .int 0])), (q8, .inl (G.2 0, 8, .inl (fun _ => 0))), (q9, .inl (G.2 0, 8, .inl (fun _ => 0)))] ++ X) (Fr_r _) cx (c_X1_init l G q10) fx_X1_init (by decide) m_130 rfl ⟨by decide, by decide⟩ wo rfl hl.1 rfl (Nat.le_of_ble_eq_true rfl) dX0_init_69 ⟨by decide, by decide⟩ (fun v W1 H locs hp wo => ?_)
  obtain ⟨rfl, q11, q12, q13, q14, q15, q16, rfl⟩ := hp
  have wo : Wo G A s.heap H locs [(a, .inr (0, [.ref q1, .ref q2, .ref q3, .ref q4, .ref q7, .null, .int 0, .int 0, .int 0])), (q1, .inr (4, [.int 0, .int 0, .int 0, .int 0])), (q2, .inl (G.2 1, 3, .inr (.inr (.inr (.inr (fun _ => none)))))), (q3, .inl (G.2 2, 4, .inr (.inr (.inr (.inr (fun _ => none)))))), (q4, .inr (2, [.int 0, .ref q5, .ref q6, .int 3, .int 0, .int 0])), (q5, .inl (G.2 0, 8, .inl (fun _ => 0))), (q6, .inl (G.2 0, 8, .inl (fun _ => 0))), (q7, .inr (2, [.int 1, .ref q8, .ref q9, .int 11, .int 0, .int 0])), (q8, .inl (G.2 0, 8, .inl (fun _ => 0))), (q9, .inl (G.2 0, 8, .inl (fun _ => 0))), (q10, .inr (1, [.ref q11, .ref q12, .ref q13, .ref q14, .ref q15, .ref q16, .int 0, .int 0, .int 0, .int 0, .int 0, .int 0])), (q11, .inr (4, [.int 0, .int 0, .int 0, .int 0])), (q12, .inr (4, [.int 0, .int 0, .int 0, .int 0])), (q13, .inr (4, [.int 0, .int 0, .int 0, .int 0])), (q14, .inr (4, [.int 0, .int 0, .int 0, .int 0])), (q15, .inr (4, [.int 0, .int 0, .int 0, .int 0])), (q16, .inr (4, [.int 0, .int 0, .int 0, .int 0]))] := wo
  refine nrm_v ?_
  refine pthF (k := 5) (ty := .object "HotAisle$Books") cx wo rfl (by decide) in_aisle tyX0 tyX0_ok nmX0 rfl rfl m_255 rfl (by decide +kernel) rfl rfl (Nat.le_of_ble_eq_true rfl) dX0_init_72 (fun H locs wo => ?_)
  have wo : Wo G A s.heap H locs [(a, .inr (0, [.ref q1, .ref q2, .ref q3, .ref q4, .ref q7, .ref q10, .int 0, .int 0, .int 0])), (q1, .inr (4, [.int 0, .int 0, .int 0, .int 0])), (q2, .inl (G.2 1, 3, .inr (.inr (.inr (.inr (fun _ => none)))))), (q3, .inl (G.2 2, 4, .inr (.inr (.inr (.inr (fun _ => none)))))), (q4, .inr (2, [.int 0, .ref q5, .ref q6, .int 3, .int 0, .int 0])), (q5, .inl (G.2 0, 8, .inl (fun _ => 0))), (q6, .inl (G.2 0, 8, .inl (fun _ => 0))), (q7, .inr (2, [.int 1, .ref q8, .ref q9, .int 11, .int 0, .int 0])), (q8, .inl (G.2 0, 8, .inl (fun _ => 0))), (q9, .inl (G.2 0, 8, .inl (fun _ => 0))), (q10, .inr (1, [.ref q11, .ref q12, .ref q13, .ref q14, .ref q15, .ref q16, .int 0, .int 0, .int 0, .int 0, .int 0, .int 0])), (q11, .inr (4, [.int 0, .int 0, .int 0, .int 0])), (q12, .inr (4, [.int 0, .int 0, .int 0, .int 0])), (q13, .inr (4, [.int 0, .int 0, .int 0, .int 0])), (q14, .inr (4, [.int 0, .int 0, .int 0, .int 0])), (q15, .inr (4, [.int 0, .int 0, .int 0, .int 0])), (q16, .inr (4, [.int 0, .int 0, .int 0, .int 0]))] := wo
  refine lv_aload_n hx hb dX0_init_75 rfl (lv_at hl 0 rfl) ?_
  refine lv_bipush (v := 12) hx hb dX0_init_76 (by decide) ?_
  refine pthN (k := 7) (ty := .int) cx wo rfl (by decide) in_aisle tyX0 tyX0_ok nmX0 rfl m_258 rfl (by decide +kernel) rfl rfl (Nat.le_of_ble_eq_true rfl) dX0_init_78 (fun H locs wo => ?_)
  have wo : Wo G A s.heap H locs [(a, .inr (0, [.ref q1, .ref q2, .ref q3, .ref q4, .ref q7, .ref q10, .int 0, .int 12, .int 0])), (q1, .inr (4, [.int 0, .int 0, .int 0, .int 0])), (q2, .inl (G.2 1, 3, .inr (.inr (.inr (.inr (fun _ => none)))))), (q3, .inl (G.2 2, 4, .inr (.inr (.inr (.inr (fun _ => none)))))), (q4, .inr (2, [.int 0, .ref q5, .ref q6, .int 3, .int 0, .int 0])), (q5, .inl (G.2 0, 8, .inl (fun _ => 0))), (q6, .inl (G.2 0, 8, .inl (fun _ => 0))), (q7, .inr (2, [.int 1, .ref q8, .ref q9, .int 11, .int 0, .int 0])), (q8, .inl (G.2 0, 8, .inl (fun _ => 0))), (q9, .inl (G.2 0, 8, .inl (fun _ => 0))), (q10, .inr (1, [.ref q11, .ref q12, .ref q13, .ref q14, .ref q15, .ref q16, .int 0, .int 0, .int 0, .int 0, .int 0, .int 0])), (q11, .inr (4, [.int 0, .int 0, .int 0, .int 0])), (q12, .inr (4, [.int 0, .int 0, .int 0, .int 0])), (q13, .inr (4, [.int 0, .int 0, .int 0, .int 0])), (q14, .inr (4, [.int 0, .int 0, .int 0, .int 0])), (q15, .inr (4, [.int 0, .int 0, .int 0, .int 0])), (q16, .inr (4, [.int 0, .int 0, .int 0, .int 0]))] := wo
  refine lv_iconst (v := 0) hx hb dX0_init_81 (by decide) ?_
  refine lv_istore_n (lv' := [(1, .int 0), (0, .ref a)]) hx hb dX0_init_82 rfl hl (by decide) rfl (fun ls hl => ?_)
  refine lv_iload_n hx hb dX0_init_83 rfl (lv_at hl 0 rfl) ?_
  refine lv_aload_n hx hb dX0_init_84 rfl (lv_at hl 1 rfl) ?_
  refine gf (fun X => X) Fr_id cx wo (j := 0) rfl rfl (k := 1) (by decide) in_aisle rfl m_251 rfl dX0_init_85 ?_
  refine alen (v := 3) (fun X => X) Fr_id cx wo (j := 2) rfl (t0 := 1) rfl rfl dX0_init_88 ?_
  refine lv_icmp_ge (tgt := 124) hx hb dX0_init_89 (by decide) (fun h => absurd h (by decide)) (fun _ => ?_)
  refine lv_iload_n hx hb dX0_init_92 rfl (lv_at hl 0 rfl) ?_
  refine va_getsN hx hb hZ1 wo.2.2 hown (va_Nw.use rfl kn.2.2.1) (fun _ h => h) dX0_init_93 ?_
  refine va_tlen hx hb hT1 wo.2.2 (v := 3) rfl dX0_init_96 ?_
  refine lv_icmp_ge (tgt := 124) hx hb dX0_init_97 (by decide) (fun h => absurd h (by decide)) (fun _ => ?_)
  refine lv_aload_n hx hb dX0_init_100 rfl (lv_at hl 1 rfl) ?_
  refine gf (fun X => X) Fr_id cx wo (j := 0) rfl rfl (k := 1) (by decide) in_aisle rfl m_251 rfl dX0_init_101 ?_
  refine lv_iload_n hx hb dX0_init_104 rfl (lv_at hl 0 rfl) ?_
  refine nobj (ci := 5) (fs := [.int 0, .null, .int 0, .int 0, .int 0, .int 0]) cx wo in_vessel tyX5 tyX5_ok m_90 m_187 m_44 rfl (fun j hj => by rcases (show j = 0 ∨ j = 1 ∨ j = 2 ∨ j = 3 ∨ j = 4 ∨ j = 5 by omega) with rfl | rfl | rfl | rfl | rfl | rfl <;> rfl) (by decide) (by decide) dX0_init_105 (fun q17 H wo => ?_)
  have wo : Wo G A s.heap H locs [(a, .inr (0, [.ref q1, .ref q2, .ref q3, .ref q4, .ref q7, .ref q10, .int 0, .int 12, .int 0])), (q1, .inr (4, [.int 0, .int 0, .int 0, .int 0])), (q2, .inl (G.2 1, 3, .inr (.inr (.inr (.inr (fun _ => none)))))), (q3, .inl (G.2 2, 4, .inr (.inr (.inr (.inr (fun _ => none)))))), (q4, .inr (2, [.int 0, .ref q5, .ref q6, .int 3, .int 0, .int 0])), (q5, .inl (G.2 0, 8, .inl (fun _ => 0))), (q6, .inl (G.2 0, 8, .inl (fun _ => 0))), (q7, .inr (2, [.int 1, .ref q8, .ref q9, .int 11, .int 0, .int 0])), (q8, .inl (G.2 0, 8, .inl (fun _ => 0))), (q9, .inl (G.2 0, 8, .inl (fun _ => 0))), (q10, .inr (1, [.ref q11, .ref q12, .ref q13, .ref q14, .ref q15, .ref q16, .int 0, .int 0, .int 0, .int 0, .int 0, .int 0])), (q11, .inr (4, [.int 0, .int 0, .int 0, .int 0])), (q12, .inr (4, [.int 0, .int 0, .int 0, .int 0])), (q13, .inr (4, [.int 0, .int 0, .int 0, .int 0])), (q14, .inr (4, [.int 0, .int 0, .int 0, .int 0])), (q15, .inr (4, [.int 0, .int 0, .int 0, .int 0])), (q16, .inr (4, [.int 0, .int 0, .int 0, .int 0])), (q17, .inr (5, [.int 0, .null, .int 0, .int 0, .int 0, .int 0]))] := wo
  refine lv_dup hx hb dX0_init_108 rfl ?_
  refine va_getsN hx hb hZ1 wo.2.2 hown (va_Nw.use rfl kn.2.2.1) (fun _ h => h) dX0_init_109 ?_
  refine lv_iload_n hx hb dX0_init_112 rfl (lv_at hl 0 rfl) ?_
  refine va_ti hx hb hT1 wo.2.2 (vp_in_nI (n := 0) (by decide) (by decide)) (v := .int 4) (by decide +kernel) dX0_init_113 ?_
  refine call_I (As := [.int 4]) (rest := [.ref q17, .int 0, .ref q2]) (fun X => [(a, .inr (0, [.ref q1, .ref q2, .ref q3, .ref q4, .ref q7, .ref q10, .int 0, .int 12, .int 0])), (q1, .inr (4, [.int 0, .int 0, .int 0, .int 0])), (q2, .inl (G.2 1, 3, .inr (.inr (.inr (.inr (fun _ => none)))))), (q3, .inl (G.2 2, 4, .inr (.inr (.inr (.inr (fun _ => none)))))), (q4, .inr (2, [.int 0, .ref q5, .ref q6, .int 3, .int 0, .int 0])), (q5, .inl (G.2 0, 8, .inl (fun _ => 0))), (q6, .inl (G.2 0, 8, .inl (fun _ => 0))), (q7, .inr (2, [.int 1, .ref q8, .ref q9, .int 11, .int 0, .int 0])), (q8, .inl (G.2 0, 8, .inl (fun _ => 0))), (q9, .inl (G.2 0, 8, .inl (fun _ => 0))), (q10, .inr (1, [.ref q11, .ref q12, .ref q13, .ref q14, .ref q15, .ref q16, .int 0, .int 0, .int 0, .int 0, .int 0, .int 0])), (q11, .inr (4, [.int 0, .int 0, .int 0, .int 0])), (q12, .inr (4, [.int 0, .int 0, .int 0, .int 0])), (q13, .inr (4, [.int 0, .int 0, .int 0, .int 0])), (q14, .inr (4, [.int 0, .int 0, .int 0, .int 0])), (q15, .inr (4, [.int 0, .int 0, .int 0, .int 0])), (q16, .inr (4, [.int 0, .int 0, .int 0, .int 0]))] ++ X) (Fr_r _) cx (c_X5_init l G q17 4) fx_X5_init m_188 m_189 rfl ⟨by decide, by decide⟩ wo rfl hl.1 rfl (Nat.le_of_ble_eq_true rfl) dX0_init_114 ⟨by decide, by decide⟩ (fun v W1 H locs hp wo => ?_)
  obtain ⟨rfl, q18, rfl⟩ := hp
  have wo : Wo G A s.heap H locs [(a, .inr (0, [.ref q1, .ref q2, .ref q3, .ref q4, .ref q7, .ref q10, .int 0, .int 12, .int 0])), (q1, .inr (4, [.int 0, .int 0, .int 0, .int 0])), (q2, .inl (G.2 1, 3, .inr (.inr (.inr (.inr (fun _ => none)))))), (q3, .inl (G.2 2, 4, .inr (.inr (.inr (.inr (fun _ => none)))))), (q4, .inr (2, [.int 0, .ref q5, .ref q6, .int 3, .int 0, .int 0])), (q5, .inl (G.2 0, 8, .inl (fun _ => 0))), (q6, .inl (G.2 0, 8, .inl (fun _ => 0))), (q7, .inr (2, [.int 1, .ref q8, .ref q9, .int 11, .int 0, .int 0])), (q8, .inl (G.2 0, 8, .inl (fun _ => 0))), (q9, .inl (G.2 0, 8, .inl (fun _ => 0))), (q10, .inr (1, [.ref q11, .ref q12, .ref q13, .ref q14, .ref q15, .ref q16, .int 0, .int 0, .int 0, .int 0, .int 0, .int 0])), (q11, .inr (4, [.int 0, .int 0, .int 0, .int 0])), (q12, .inr (4, [.int 0, .int 0, .int 0, .int 0])), (q13, .inr (4, [.int 0, .int 0, .int 0, .int 0])), (q14, .inr (4, [.int 0, .int 0, .int 0, .int 0])), (q15, .inr (4, [.int 0, .int 0, .int 0, .int 0])), (q16, .inr (4, [.int 0, .int 0, .int 0, .int 0])), (q17, .inr (5, [.int 4, .ref q18, .int 1150, .int 0, .int 0, .int 0])), (q18, .inr (4, [.int 0, .int 0, .int 0, .int 0]))] := wo
  refine nrm_v ?_
  refine ast_q (j := 2) (n := 0) (qk := 17) (t0 := 1) (r := ("HotAisle$Vessel", TX5, 6)) cx wo rfl rfl rfl rfl rfl (by decide) (by decide) dX0_init_117 (fun H locs wo => ?_)
  have wo : Wo G A s.heap H locs [(a, .inr (0, [.ref q1, .ref q2, .ref q3, .ref q4, .ref q7, .ref q10, .int 0, .int 12, .int 0])), (q1, .inr (4, [.int 0, .int 0, .int 0, .int 0])), (q2, .inl (G.2 1, 3, .inr (.inr (.inr (.inr (va_up (fun _ => none) 0 (some q17))))))), (q3, .inl (G.2 2, 4, .inr (.inr (.inr (.inr (fun _ => none)))))), (q4, .inr (2, [.int 0, .ref q5, .ref q6, .int 3, .int 0, .int 0])), (q5, .inl (G.2 0, 8, .inl (fun _ => 0))), (q6, .inl (G.2 0, 8, .inl (fun _ => 0))), (q7, .inr (2, [.int 1, .ref q8, .ref q9, .int 11, .int 0, .int 0])), (q8, .inl (G.2 0, 8, .inl (fun _ => 0))), (q9, .inl (G.2 0, 8, .inl (fun _ => 0))), (q10, .inr (1, [.ref q11, .ref q12, .ref q13, .ref q14, .ref q15, .ref q16, .int 0, .int 0, .int 0, .int 0, .int 0, .int 0])), (q11, .inr (4, [.int 0, .int 0, .int 0, .int 0])), (q12, .inr (4, [.int 0, .int 0, .int 0, .int 0])), (q13, .inr (4, [.int 0, .int 0, .int 0, .int 0])), (q14, .inr (4, [.int 0, .int 0, .int 0, .int 0])), (q15, .inr (4, [.int 0, .int 0, .int 0, .int 0])), (q16, .inr (4, [.int 0, .int 0, .int 0, .int 0])), (q17, .inr (5, [.int 4, .ref q18, .int 1150, .int 0, .int 0, .int 0])), (q18, .inr (4, [.int 0, .int 0, .int 0, .int 0]))] := wo
  refine lv_iinc (v := 1) (lv' := [(1, .int 1), (0, .ref a)]) hx hb dX0_init_118 hl (k := 0) rfl (by decide) (by decide) rfl (fun ls hl => ?_)
  refine lv_goto (tgt := 83) hx hb dX0_init_121 (by decide) ?_
  refine lv_iload_n hx hb dX0_init_83 rfl (lv_at hl 0 rfl) ?_
  refine lv_aload_n hx hb dX0_init_84 rfl (lv_at hl 1 rfl) ?_
  refine gf (fun X => X) Fr_id cx wo (j := 0) rfl rfl (k := 1) (by decide) in_aisle rfl m_251 rfl dX0_init_85 ?_
  refine alen (v := 3) (fun X => X) Fr_id cx wo (j := 2) rfl (t0 := 1) rfl rfl dX0_init_88 ?_
  refine lv_icmp_ge (tgt := 124) hx hb dX0_init_89 (by decide) (fun h => absurd h (by decide)) (fun _ => ?_)
  refine lv_iload_n hx hb dX0_init_92 rfl (lv_at hl 0 rfl) ?_
  refine va_getsN hx hb hZ1 wo.2.2 hown (va_Nw.use rfl kn.2.2.1) (fun _ h => h) dX0_init_93 ?_
  refine va_tlen hx hb hT1 wo.2.2 (v := 3) rfl dX0_init_96 ?_
  refine lv_icmp_ge (tgt := 124) hx hb dX0_init_97 (by decide) (fun h => absurd h (by decide)) (fun _ => ?_)
  refine lv_aload_n hx hb dX0_init_100 rfl (lv_at hl 1 rfl) ?_
  refine gf (fun X => X) Fr_id cx wo (j := 0) rfl rfl (k := 1) (by decide) in_aisle rfl m_251 rfl dX0_init_101 ?_
  refine lv_iload_n hx hb dX0_init_104 rfl (lv_at hl 0 rfl) ?_
  refine nobj (ci := 5) (fs := [.int 0, .null, .int 0, .int 0, .int 0, .int 0]) cx wo in_vessel tyX5 tyX5_ok m_90 m_187 m_44 rfl (fun j hj => by rcases (show j = 0 ∨ j = 1 ∨ j = 2 ∨ j = 3 ∨ j = 4 ∨ j = 5 by omega) with rfl | rfl | rfl | rfl | rfl | rfl <;> rfl) (by decide) (by decide) dX0_init_105 (fun q19 H wo => ?_)
  have wo : Wo G A s.heap H locs [(a, .inr (0, [.ref q1, .ref q2, .ref q3, .ref q4, .ref q7, .ref q10, .int 0, .int 12, .int 0])), (q1, .inr (4, [.int 0, .int 0, .int 0, .int 0])), (q2, .inl (G.2 1, 3, .inr (.inr (.inr (.inr (va_up (fun _ => none) 0 (some q17))))))), (q3, .inl (G.2 2, 4, .inr (.inr (.inr (.inr (fun _ => none)))))), (q4, .inr (2, [.int 0, .ref q5, .ref q6, .int 3, .int 0, .int 0])), (q5, .inl (G.2 0, 8, .inl (fun _ => 0))), (q6, .inl (G.2 0, 8, .inl (fun _ => 0))), (q7, .inr (2, [.int 1, .ref q8, .ref q9, .int 11, .int 0, .int 0])), (q8, .inl (G.2 0, 8, .inl (fun _ => 0))), (q9, .inl (G.2 0, 8, .inl (fun _ => 0))), (q10, .inr (1, [.ref q11, .ref q12, .ref q13, .ref q14, .ref q15, .ref q16, .int 0, .int 0, .int 0, .int 0, .int 0, .int 0])), (q11, .inr (4, [.int 0, .int 0, .int 0, .int 0])), (q12, .inr (4, [.int 0, .int 0, .int 0, .int 0])), (q13, .inr (4, [.int 0, .int 0, .int 0, .int 0])), (q14, .inr (4, [.int 0, .int 0, .int 0, .int 0])), (q15, .inr (4, [.int 0, .int 0, .int 0, .int 0])), (q16, .inr (4, [.int 0, .int 0, .int 0, .int 0])), (q17, .inr (5, [.int 4, .ref q18, .int 1150, .int 0, .int 0, .int 0])), (q18, .inr (4, [.int 0, .int 0, .int 0, .int 0])), (q19, .inr (5, [.int 0, .null, .int 0, .int 0, .int 0, .int 0]))] := wo
  refine lv_dup hx hb dX0_init_108 rfl ?_
  refine va_getsN hx hb hZ1 wo.2.2 hown (va_Nw.use rfl kn.2.2.1) (fun _ h => h) dX0_init_109 ?_
  refine lv_iload_n hx hb dX0_init_112 rfl (lv_at hl 0 rfl) ?_
  refine va_ti hx hb hT1 wo.2.2 (vp_in_nI (n := 1) (by decide) (by decide)) (v := .int 8) (by decide +kernel) dX0_init_113 ?_
  refine call_I (As := [.int 8]) (rest := [.ref q19, .int 1, .ref q2]) (fun X => [(a, .inr (0, [.ref q1, .ref q2, .ref q3, .ref q4, .ref q7, .ref q10, .int 0, .int 12, .int 0])), (q1, .inr (4, [.int 0, .int 0, .int 0, .int 0])), (q2, .inl (G.2 1, 3, .inr (.inr (.inr (.inr (va_up (fun _ => none) 0 (some q17))))))), (q3, .inl (G.2 2, 4, .inr (.inr (.inr (.inr (fun _ => none)))))), (q4, .inr (2, [.int 0, .ref q5, .ref q6, .int 3, .int 0, .int 0])), (q5, .inl (G.2 0, 8, .inl (fun _ => 0))), (q6, .inl (G.2 0, 8, .inl (fun _ => 0))), (q7, .inr (2, [.int 1, .ref q8, .ref q9, .int 11, .int 0, .int 0])), (q8, .inl (G.2 0, 8, .inl (fun _ => 0))), (q9, .inl (G.2 0, 8, .inl (fun _ => 0))), (q10, .inr (1, [.ref q11, .ref q12, .ref q13, .ref q14, .ref q15, .ref q16, .int 0, .int 0, .int 0, .int 0, .int 0, .int 0])), (q11, .inr (4, [.int 0, .int 0, .int 0, .int 0])), (q12, .inr (4, [.int 0, .int 0, .int 0, .int 0])), (q13, .inr (4, [.int 0, .int 0, .int 0, .int 0])), (q14, .inr (4, [.int 0, .int 0, .int 0, .int 0])), (q15, .inr (4, [.int 0, .int 0, .int 0, .int 0])), (q16, .inr (4, [.int 0, .int 0, .int 0, .int 0])), (q17, .inr (5, [.int 4, .ref q18, .int 1150, .int 0, .int 0, .int 0])), (q18, .inr (4, [.int 0, .int 0, .int 0, .int 0]))] ++ X) (Fr_r _) cx (c_X5_init l G q19 8) fx_X5_init m_188 m_189 rfl ⟨by decide, by decide⟩ wo rfl hl.1 rfl (Nat.le_of_ble_eq_true rfl) dX0_init_114 ⟨by decide, by decide⟩ (fun v W1 H locs hp wo => ?_)
  obtain ⟨rfl, q20, rfl⟩ := hp
  have wo : Wo G A s.heap H locs [(a, .inr (0, [.ref q1, .ref q2, .ref q3, .ref q4, .ref q7, .ref q10, .int 0, .int 12, .int 0])), (q1, .inr (4, [.int 0, .int 0, .int 0, .int 0])), (q2, .inl (G.2 1, 3, .inr (.inr (.inr (.inr (va_up (fun _ => none) 0 (some q17))))))), (q3, .inl (G.2 2, 4, .inr (.inr (.inr (.inr (fun _ => none)))))), (q4, .inr (2, [.int 0, .ref q5, .ref q6, .int 3, .int 0, .int 0])), (q5, .inl (G.2 0, 8, .inl (fun _ => 0))), (q6, .inl (G.2 0, 8, .inl (fun _ => 0))), (q7, .inr (2, [.int 1, .ref q8, .ref q9, .int 11, .int 0, .int 0])), (q8, .inl (G.2 0, 8, .inl (fun _ => 0))), (q9, .inl (G.2 0, 8, .inl (fun _ => 0))), (q10, .inr (1, [.ref q11, .ref q12, .ref q13, .ref q14, .ref q15, .ref q16, .int 0, .int 0, .int 0, .int 0, .int 0, .int 0])), (q11, .inr (4, [.int 0, .int 0, .int 0, .int 0])), (q12, .inr (4, [.int 0, .int 0, .int 0, .int 0])), (q13, .inr (4, [.int 0, .int 0, .int 0, .int 0])), (q14, .inr (4, [.int 0, .int 0, .int 0, .int 0])), (q15, .inr (4, [.int 0, .int 0, .int 0, .int 0])), (q16, .inr (4, [.int 0, .int 0, .int 0, .int 0])), (q17, .inr (5, [.int 4, .ref q18, .int 1150, .int 0, .int 0, .int 0])), (q18, .inr (4, [.int 0, .int 0, .int 0, .int 0])), (q19, .inr (5, [.int 8, .ref q20, .int 1150, .int 0, .int 0, .int 0])), (q20, .inr (4, [.int 0, .int 0, .int 0, .int 0]))] := wo
  refine nrm_v ?_
  refine ast_q (j := 2) (n := 1) (qk := 19) (t0 := 1) (r := ("HotAisle$Vessel", TX5, 6)) cx wo rfl rfl rfl rfl rfl (by decide) (by decide) dX0_init_117 (fun H locs wo => ?_)
  have wo : Wo G A s.heap H locs [(a, .inr (0, [.ref q1, .ref q2, .ref q3, .ref q4, .ref q7, .ref q10, .int 0, .int 12, .int 0])), (q1, .inr (4, [.int 0, .int 0, .int 0, .int 0])), (q2, .inl (G.2 1, 3, .inr (.inr (.inr (.inr (va_up (va_up (fun _ => none) 0 (some q17)) 1 (some q19))))))), (q3, .inl (G.2 2, 4, .inr (.inr (.inr (.inr (fun _ => none)))))), (q4, .inr (2, [.int 0, .ref q5, .ref q6, .int 3, .int 0, .int 0])), (q5, .inl (G.2 0, 8, .inl (fun _ => 0))), (q6, .inl (G.2 0, 8, .inl (fun _ => 0))), (q7, .inr (2, [.int 1, .ref q8, .ref q9, .int 11, .int 0, .int 0])), (q8, .inl (G.2 0, 8, .inl (fun _ => 0))), (q9, .inl (G.2 0, 8, .inl (fun _ => 0))), (q10, .inr (1, [.ref q11, .ref q12, .ref q13, .ref q14, .ref q15, .ref q16, .int 0, .int 0, .int 0, .int 0, .int 0, .int 0])), (q11, .inr (4, [.int 0, .int 0, .int 0, .int 0])), (q12, .inr (4, [.int 0, .int 0, .int 0, .int 0])), (q13, .inr (4, [.int 0, .int 0, .int 0, .int 0])), (q14, .inr (4, [.int 0, .int 0, .int 0, .int 0])), (q15, .inr (4, [.int 0, .int 0, .int 0, .int 0])), (q16, .inr (4, [.int 0, .int 0, .int 0, .int 0])), (q17, .inr (5, [.int 4, .ref q18, .int 1150, .int 0, .int 0, .int 0])), (q18, .inr (4, [.int 0, .int 0, .int 0, .int 0])), (q19, .inr (5, [.int 8, .ref q20, .int 1150, .int 0, .int 0, .int 0])), (q20, .inr (4, [.int 0, .int 0, .int 0, .int 0]))] := wo
  refine lv_iinc (v := 2) (lv' := [(1, .int 2), (0, .ref a)]) hx hb dX0_init_118 hl (k := 0) rfl (by decide) (by decide) rfl (fun ls hl => ?_)
  refine lv_goto (tgt := 83) hx hb dX0_init_121 (by decide) ?_
  refine lv_iload_n hx hb dX0_init_83 rfl (lv_at hl 0 rfl) ?_
  refine lv_aload_n hx hb dX0_init_84 rfl (lv_at hl 1 rfl) ?_
  refine gf (fun X => X) Fr_id cx wo (j := 0) rfl rfl (k := 1) (by decide) in_aisle rfl m_251 rfl dX0_init_85 ?_
  refine alen (v := 3) (fun X => X) Fr_id cx wo (j := 2) rfl (t0 := 1) rfl rfl dX0_init_88 ?_
  refine lv_icmp_ge (tgt := 124) hx hb dX0_init_89 (by decide) (fun h => absurd h (by decide)) (fun _ => ?_)
  refine lv_iload_n hx hb dX0_init_92 rfl (lv_at hl 0 rfl) ?_
  refine va_getsN hx hb hZ1 wo.2.2 hown (va_Nw.use rfl kn.2.2.1) (fun _ h => h) dX0_init_93 ?_
  refine va_tlen hx hb hT1 wo.2.2 (v := 3) rfl dX0_init_96 ?_
  refine lv_icmp_ge (tgt := 124) hx hb dX0_init_97 (by decide) (fun h => absurd h (by decide)) (fun _ => ?_)
  refine lv_aload_n hx hb dX0_init_100 rfl (lv_at hl 1 rfl) ?_
  refine gf (fun X => X) Fr_id cx wo (j := 0) rfl rfl (k := 1) (by decide) in_aisle rfl m_251 rfl dX0_init_101 ?_
  refine lv_iload_n hx hb dX0_init_104 rfl (lv_at hl 0 rfl) ?_
  refine nobj (ci := 5) (fs := [.int 0, .null, .int 0, .int 0, .int 0, .int 0]) cx wo in_vessel tyX5 tyX5_ok m_90 m_187 m_44 rfl (fun j hj => by rcases (show j = 0 ∨ j = 1 ∨ j = 2 ∨ j = 3 ∨ j = 4 ∨ j = 5 by omega) with rfl | rfl | rfl | rfl | rfl | rfl <;> rfl) (by decide) (by decide) dX0_init_105 (fun q21 H wo => ?_)
  have wo : Wo G A s.heap H locs [(a, .inr (0, [.ref q1, .ref q2, .ref q3, .ref q4, .ref q7, .ref q10, .int 0, .int 12, .int 0])), (q1, .inr (4, [.int 0, .int 0, .int 0, .int 0])), (q2, .inl (G.2 1, 3, .inr (.inr (.inr (.inr (va_up (va_up (fun _ => none) 0 (some q17)) 1 (some q19))))))), (q3, .inl (G.2 2, 4, .inr (.inr (.inr (.inr (fun _ => none)))))), (q4, .inr (2, [.int 0, .ref q5, .ref q6, .int 3, .int 0, .int 0])), (q5, .inl (G.2 0, 8, .inl (fun _ => 0))), (q6, .inl (G.2 0, 8, .inl (fun _ => 0))), (q7, .inr (2, [.int 1, .ref q8, .ref q9, .int 11, .int 0, .int 0])), (q8, .inl (G.2 0, 8, .inl (fun _ => 0))), (q9, .inl (G.2 0, 8, .inl (fun _ => 0))), (q10, .inr (1, [.ref q11, .ref q12, .ref q13, .ref q14, .ref q15, .ref q16, .int 0, .int 0, .int 0, .int 0, .int 0, .int 0])), (q11, .inr (4, [.int 0, .int 0, .int 0, .int 0])), (q12, .inr (4, [.int 0, .int 0, .int 0, .int 0])), (q13, .inr (4, [.int 0, .int 0, .int 0, .int 0])), (q14, .inr (4, [.int 0, .int 0, .int 0, .int 0])), (q15, .inr (4, [.int 0, .int 0, .int 0, .int 0])), (q16, .inr (4, [.int 0, .int 0, .int 0, .int 0])), (q17, .inr (5, [.int 4, .ref q18, .int 1150, .int 0, .int 0, .int 0])), (q18, .inr (4, [.int 0, .int 0, .int 0, .int 0])), (q19, .inr (5, [.int 8, .ref q20, .int 1150, .int 0, .int 0, .int 0])), (q20, .inr (4, [.int 0, .int 0, .int 0, .int 0])), (q21, .inr (5, [.int 0, .null, .int 0, .int 0, .int 0, .int 0]))] := wo
  refine lv_dup hx hb dX0_init_108 rfl ?_
  refine va_getsN hx hb hZ1 wo.2.2 hown (va_Nw.use rfl kn.2.2.1) (fun _ h => h) dX0_init_109 ?_
  refine lv_iload_n hx hb dX0_init_112 rfl (lv_at hl 0 rfl) ?_
  refine va_ti hx hb hT1 wo.2.2 (vp_in_nI (n := 2) (by decide) (by decide)) (v := .int 12) (by decide +kernel) dX0_init_113 ?_
  refine call_I (As := [.int 12]) (rest := [.ref q21, .int 2, .ref q2]) (fun X => [(a, .inr (0, [.ref q1, .ref q2, .ref q3, .ref q4, .ref q7, .ref q10, .int 0, .int 12, .int 0])), (q1, .inr (4, [.int 0, .int 0, .int 0, .int 0])), (q2, .inl (G.2 1, 3, .inr (.inr (.inr (.inr (va_up (va_up (fun _ => none) 0 (some q17)) 1 (some q19))))))), (q3, .inl (G.2 2, 4, .inr (.inr (.inr (.inr (fun _ => none)))))), (q4, .inr (2, [.int 0, .ref q5, .ref q6, .int 3, .int 0, .int 0])), (q5, .inl (G.2 0, 8, .inl (fun _ => 0))), (q6, .inl (G.2 0, 8, .inl (fun _ => 0))), (q7, .inr (2, [.int 1, .ref q8, .ref q9, .int 11, .int 0, .int 0])), (q8, .inl (G.2 0, 8, .inl (fun _ => 0))), (q9, .inl (G.2 0, 8, .inl (fun _ => 0))), (q10, .inr (1, [.ref q11, .ref q12, .ref q13, .ref q14, .ref q15, .ref q16, .int 0, .int 0, .int 0, .int 0, .int 0, .int 0])), (q11, .inr (4, [.int 0, .int 0, .int 0, .int 0])), (q12, .inr (4, [.int 0, .int 0, .int 0, .int 0])), (q13, .inr (4, [.int 0, .int 0, .int 0, .int 0])), (q14, .inr (4, [.int 0, .int 0, .int 0, .int 0])), (q15, .inr (4, [.int 0, .int 0, .int 0, .int 0])), (q16, .inr (4, [.int 0, .int 0, .int 0, .int 0])), (q17, .inr (5, [.int 4, .ref q18, .int 1150, .int 0, .int 0, .int 0])), (q18, .inr (4, [.int 0, .int 0, .int 0, .int 0])), (q19, .inr (5, [.int 8, .ref q20, .int 1150, .int 0, .int 0, .int 0])), (q20, .inr (4, [.int 0, .int 0, .int 0, .int 0]))] ++ X) (Fr_r _) cx (c_X5_init l G q21 12) fx_X5_init m_188 m_189 rfl ⟨by decide, by decide⟩ wo rfl hl.1 rfl (Nat.le_of_ble_eq_true rfl) dX0_init_114 ⟨by decide, by decide⟩ (fun v W1 H locs hp wo => ?_)
  obtain ⟨rfl, q22, rfl⟩ := hp
  have wo : Wo G A s.heap H locs [(a, .inr (0, [.ref q1, .ref q2, .ref q3, .ref q4, .ref q7, .ref q10, .int 0, .int 12, .int 0])), (q1, .inr (4, [.int 0, .int 0, .int 0, .int 0])), (q2, .inl (G.2 1, 3, .inr (.inr (.inr (.inr (va_up (va_up (fun _ => none) 0 (some q17)) 1 (some q19))))))), (q3, .inl (G.2 2, 4, .inr (.inr (.inr (.inr (fun _ => none)))))), (q4, .inr (2, [.int 0, .ref q5, .ref q6, .int 3, .int 0, .int 0])), (q5, .inl (G.2 0, 8, .inl (fun _ => 0))), (q6, .inl (G.2 0, 8, .inl (fun _ => 0))), (q7, .inr (2, [.int 1, .ref q8, .ref q9, .int 11, .int 0, .int 0])), (q8, .inl (G.2 0, 8, .inl (fun _ => 0))), (q9, .inl (G.2 0, 8, .inl (fun _ => 0))), (q10, .inr (1, [.ref q11, .ref q12, .ref q13, .ref q14, .ref q15, .ref q16, .int 0, .int 0, .int 0, .int 0, .int 0, .int 0])), (q11, .inr (4, [.int 0, .int 0, .int 0, .int 0])), (q12, .inr (4, [.int 0, .int 0, .int 0, .int 0])), (q13, .inr (4, [.int 0, .int 0, .int 0, .int 0])), (q14, .inr (4, [.int 0, .int 0, .int 0, .int 0])), (q15, .inr (4, [.int 0, .int 0, .int 0, .int 0])), (q16, .inr (4, [.int 0, .int 0, .int 0, .int 0])), (q17, .inr (5, [.int 4, .ref q18, .int 1150, .int 0, .int 0, .int 0])), (q18, .inr (4, [.int 0, .int 0, .int 0, .int 0])), (q19, .inr (5, [.int 8, .ref q20, .int 1150, .int 0, .int 0, .int 0])), (q20, .inr (4, [.int 0, .int 0, .int 0, .int 0])), (q21, .inr (5, [.int 12, .ref q22, .int 1150, .int 0, .int 0, .int 0])), (q22, .inr (4, [.int 0, .int 0, .int 0, .int 0]))] := wo
  refine nrm_v ?_
  refine ast_q (j := 2) (n := 2) (qk := 21) (t0 := 1) (r := ("HotAisle$Vessel", TX5, 6)) cx wo rfl rfl rfl rfl rfl (by decide) (by decide) dX0_init_117 (fun H locs wo => ?_)
  have wo : Wo G A s.heap H locs [(a, .inr (0, [.ref q1, .ref q2, .ref q3, .ref q4, .ref q7, .ref q10, .int 0, .int 12, .int 0])), (q1, .inr (4, [.int 0, .int 0, .int 0, .int 0])), (q2, .inl (G.2 1, 3, .inr (.inr (.inr (.inr (va_up (va_up (va_up (fun _ => none) 0 (some q17)) 1 (some q19)) 2 (some q21))))))), (q3, .inl (G.2 2, 4, .inr (.inr (.inr (.inr (fun _ => none)))))), (q4, .inr (2, [.int 0, .ref q5, .ref q6, .int 3, .int 0, .int 0])), (q5, .inl (G.2 0, 8, .inl (fun _ => 0))), (q6, .inl (G.2 0, 8, .inl (fun _ => 0))), (q7, .inr (2, [.int 1, .ref q8, .ref q9, .int 11, .int 0, .int 0])), (q8, .inl (G.2 0, 8, .inl (fun _ => 0))), (q9, .inl (G.2 0, 8, .inl (fun _ => 0))), (q10, .inr (1, [.ref q11, .ref q12, .ref q13, .ref q14, .ref q15, .ref q16, .int 0, .int 0, .int 0, .int 0, .int 0, .int 0])), (q11, .inr (4, [.int 0, .int 0, .int 0, .int 0])), (q12, .inr (4, [.int 0, .int 0, .int 0, .int 0])), (q13, .inr (4, [.int 0, .int 0, .int 0, .int 0])), (q14, .inr (4, [.int 0, .int 0, .int 0, .int 0])), (q15, .inr (4, [.int 0, .int 0, .int 0, .int 0])), (q16, .inr (4, [.int 0, .int 0, .int 0, .int 0])), (q17, .inr (5, [.int 4, .ref q18, .int 1150, .int 0, .int 0, .int 0])), (q18, .inr (4, [.int 0, .int 0, .int 0, .int 0])), (q19, .inr (5, [.int 8, .ref q20, .int 1150, .int 0, .int 0, .int 0])), (q20, .inr (4, [.int 0, .int 0, .int 0, .int 0])), (q21, .inr (5, [.int 12, .ref q22, .int 1150, .int 0, .int 0, .int 0])), (q22, .inr (4, [.int 0, .int 0, .int 0, .int 0]))] := wo
  refine lv_iinc (v := 3) (lv' := [(1, .int 3), (0, .ref a)]) hx hb dX0_init_118 hl (k := 0) rfl (by decide) (by decide) rfl (fun ls hl => ?_)
  refine lv_goto (tgt := 83) hx hb dX0_init_121 (by decide) ?_
  refine lv_iload_n hx hb dX0_init_83 rfl (lv_at hl 0 rfl) ?_
  refine lv_aload_n hx hb dX0_init_84 rfl (lv_at hl 1 rfl) ?_
  refine gf (fun X => X) Fr_id cx wo (j := 0) rfl rfl (k := 1) (by decide) in_aisle rfl m_251 rfl dX0_init_85 ?_
  refine alen (v := 3) (fun X => X) Fr_id cx wo (j := 2) rfl (t0 := 1) rfl rfl dX0_init_88 ?_
  refine lv_icmp_ge (tgt := 124) hx hb dX0_init_89 (by decide) (fun _ => ?_) (fun h => absurd (show ¬ _ from h) (by decide))
  refine lv_iconst (v := 0) hx hb dX0_init_124 (by decide) ?_
  refine lv_istore_n (lv' := [(1, .int 0), (0, .ref a)]) hx hb dX0_init_125 rfl hl (by decide) rfl (fun ls hl => ?_)
  refine lv_iload_n hx hb dX0_init_126 rfl (lv_at hl 0 rfl) ?_
  refine lv_aload_n hx hb dX0_init_127 rfl (lv_at hl 1 rfl) ?_
  refine gf (fun X => X) Fr_id cx wo (j := 0) rfl rfl (k := 2) (by decide) in_aisle rfl m_252 rfl dX0_init_128 ?_
  refine alen (v := 4) (fun X => X) Fr_id cx wo (j := 3) rfl (t0 := 2) rfl rfl dX0_init_131 ?_
  refine lv_icmp_ge (tgt := 167) hx hb dX0_init_132 (by decide) (fun h => absurd h (by decide)) (fun _ => ?_)
  refine lv_iload_n hx hb dX0_init_135 rfl (lv_at hl 0 rfl) ?_
  refine va_getsN hx hb hZ2 wo.2.2 hown (va_Nw.use rfl kn.2.2.2.1) (fun _ h => h) dX0_init_136 ?_
  refine va_tlen hx hb hT2 wo.2.2 (v := 4) rfl dX0_init_139 ?_
  refine lv_icmp_ge (tgt := 167) hx hb dX0_init_140 (by decide) (fun h => absurd h (by decide)) (fun _ => ?_)
  refine lv_aload_n hx hb dX0_init_143 rfl (lv_at hl 1 rfl) ?_
  refine gf (fun X => X) Fr_id cx wo (j := 0) rfl rfl (k := 2) (by decide) in_aisle rfl m_252 rfl dX0_init_144 ?_
  refine lv_iload_n hx hb dX0_init_147 rfl (lv_at hl 0 rfl) ?_
  refine nobj (ci := 3) (fs := [.null, .null, .int 0, .int 0, .int 0]) cx wo in_ladle tyX3 tyX3_ok m_94 m_222 m_45 rfl (fun j hj => by rcases (show j = 0 ∨ j = 1 ∨ j = 2 ∨ j = 3 ∨ j = 4 by omega) with rfl | rfl | rfl | rfl | rfl <;> rfl) (by decide) (by decide) dX0_init_148 (fun q23 H wo => ?_)
  have wo : Wo G A s.heap H locs [(a, .inr (0, [.ref q1, .ref q2, .ref q3, .ref q4, .ref q7, .ref q10, .int 0, .int 12, .int 0])), (q1, .inr (4, [.int 0, .int 0, .int 0, .int 0])), (q2, .inl (G.2 1, 3, .inr (.inr (.inr (.inr (va_up (va_up (va_up (fun _ => none) 0 (some q17)) 1 (some q19)) 2 (some q21))))))), (q3, .inl (G.2 2, 4, .inr (.inr (.inr (.inr (fun _ => none)))))), (q4, .inr (2, [.int 0, .ref q5, .ref q6, .int 3, .int 0, .int 0])), (q5, .inl (G.2 0, 8, .inl (fun _ => 0))), (q6, .inl (G.2 0, 8, .inl (fun _ => 0))), (q7, .inr (2, [.int 1, .ref q8, .ref q9, .int 11, .int 0, .int 0])), (q8, .inl (G.2 0, 8, .inl (fun _ => 0))), (q9, .inl (G.2 0, 8, .inl (fun _ => 0))), (q10, .inr (1, [.ref q11, .ref q12, .ref q13, .ref q14, .ref q15, .ref q16, .int 0, .int 0, .int 0, .int 0, .int 0, .int 0])), (q11, .inr (4, [.int 0, .int 0, .int 0, .int 0])), (q12, .inr (4, [.int 0, .int 0, .int 0, .int 0])), (q13, .inr (4, [.int 0, .int 0, .int 0, .int 0])), (q14, .inr (4, [.int 0, .int 0, .int 0, .int 0])), (q15, .inr (4, [.int 0, .int 0, .int 0, .int 0])), (q16, .inr (4, [.int 0, .int 0, .int 0, .int 0])), (q17, .inr (5, [.int 4, .ref q18, .int 1150, .int 0, .int 0, .int 0])), (q18, .inr (4, [.int 0, .int 0, .int 0, .int 0])), (q19, .inr (5, [.int 8, .ref q20, .int 1150, .int 0, .int 0, .int 0])), (q20, .inr (4, [.int 0, .int 0, .int 0, .int 0])), (q21, .inr (5, [.int 12, .ref q22, .int 1150, .int 0, .int 0, .int 0])), (q22, .inr (4, [.int 0, .int 0, .int 0, .int 0])), (q23, .inr (3, [.null, .null, .int 0, .int 0, .int 0]))] := wo
  refine lv_dup hx hb dX0_init_151 rfl ?_
  refine va_getsN hx hb hZ2 wo.2.2 hown (va_Nw.use rfl kn.2.2.2.1) (fun _ h => h) dX0_init_152 ?_
  refine lv_iload_n hx hb dX0_init_155 rfl (lv_at hl 0 rfl) ?_
  refine va_ti hx hb hT2 wo.2.2 (vp_in_nI (n := 0) (by decide) (by decide)) (v := .int 1) (by decide +kernel) dX0_init_156 ?_
  refine call_I (As := [.int 1]) (rest := [.ref q23, .int 0, .ref q3]) (fun X => [(a, .inr (0, [.ref q1, .ref q2, .ref q3, .ref q4, .ref q7, .ref q10, .int 0, .int 12, .int 0])), (q1, .inr (4, [.int 0, .int 0, .int 0, .int 0])), (q2, .inl (G.2 1, 3, .inr (.inr (.inr (.inr (va_up (va_up (va_up (fun _ => none) 0 (some q17)) 1 (some q19)) 2 (some q21))))))), (q3, .inl (G.2 2, 4, .inr (.inr (.inr (.inr (fun _ => none)))))), (q4, .inr (2, [.int 0, .ref q5, .ref q6, .int 3, .int 0, .int 0])), (q5, .inl (G.2 0, 8, .inl (fun _ => 0))), (q6, .inl (G.2 0, 8, .inl (fun _ => 0))), (q7, .inr (2, [.int 1, .ref q8, .ref q9, .int 11, .int 0, .int 0])), (q8, .inl (G.2 0, 8, .inl (fun _ => 0))), (q9, .inl (G.2 0, 8, .inl (fun _ => 0))), (q10, .inr (1, [.ref q11, .ref q12, .ref q13, .ref q14, .ref q15, .ref q16, .int 0, .int 0, .int 0, .int 0, .int 0, .int 0])), (q11, .inr (4, [.int 0, .int 0, .int 0, .int 0])), (q12, .inr (4, [.int 0, .int 0, .int 0, .int 0])), (q13, .inr (4, [.int 0, .int 0, .int 0, .int 0])), (q14, .inr (4, [.int 0, .int 0, .int 0, .int 0])), (q15, .inr (4, [.int 0, .int 0, .int 0, .int 0])), (q16, .inr (4, [.int 0, .int 0, .int 0, .int 0])), (q17, .inr (5, [.int 4, .ref q18, .int 1150, .int 0, .int 0, .int 0])), (q18, .inr (4, [.int 0, .int 0, .int 0, .int 0])), (q19, .inr (5, [.int 8, .ref q20, .int 1150, .int 0, .int 0, .int 0])), (q20, .inr (4, [.int 0, .int 0, .int 0, .int 0])), (q21, .inr (5, [.int 12, .ref q22, .int 1150, .int 0, .int 0, .int 0])), (q22, .inr (4, [.int 0, .int 0, .int 0, .int 0]))] ++ X) (Fr_r _) cx (c_X3_init l G q23 1) fx_X3_init m_223 m_224 rfl ⟨by decide, by decide⟩ wo rfl hl.1 rfl (Nat.le_of_ble_eq_true rfl) dX0_init_157 ⟨by decide, by decide⟩ (fun v W1 H locs hp wo => ?_)
  obtain ⟨rfl, q24, q25, rfl⟩ := hp
  have wo : Wo G A s.heap H locs [(a, .inr (0, [.ref q1, .ref q2, .ref q3, .ref q4, .ref q7, .ref q10, .int 0, .int 12, .int 0])), (q1, .inr (4, [.int 0, .int 0, .int 0, .int 0])), (q2, .inl (G.2 1, 3, .inr (.inr (.inr (.inr (va_up (va_up (va_up (fun _ => none) 0 (some q17)) 1 (some q19)) 2 (some q21))))))), (q3, .inl (G.2 2, 4, .inr (.inr (.inr (.inr (fun _ => none)))))), (q4, .inr (2, [.int 0, .ref q5, .ref q6, .int 3, .int 0, .int 0])), (q5, .inl (G.2 0, 8, .inl (fun _ => 0))), (q6, .inl (G.2 0, 8, .inl (fun _ => 0))), (q7, .inr (2, [.int 1, .ref q8, .ref q9, .int 11, .int 0, .int 0])), (q8, .inl (G.2 0, 8, .inl (fun _ => 0))), (q9, .inl (G.2 0, 8, .inl (fun _ => 0))), (q10, .inr (1, [.ref q11, .ref q12, .ref q13, .ref q14, .ref q15, .ref q16, .int 0, .int 0, .int 0, .int 0, .int 0, .int 0])), (q11, .inr (4, [.int 0, .int 0, .int 0, .int 0])), (q12, .inr (4, [.int 0, .int 0, .int 0, .int 0])), (q13, .inr (4, [.int 0, .int 0, .int 0, .int 0])), (q14, .inr (4, [.int 0, .int 0, .int 0, .int 0])), (q15, .inr (4, [.int 0, .int 0, .int 0, .int 0])), (q16, .inr (4, [.int 0, .int 0, .int 0, .int 0])), (q17, .inr (5, [.int 4, .ref q18, .int 1150, .int 0, .int 0, .int 0])), (q18, .inr (4, [.int 0, .int 0, .int 0, .int 0])), (q19, .inr (5, [.int 8, .ref q20, .int 1150, .int 0, .int 0, .int 0])), (q20, .inr (4, [.int 0, .int 0, .int 0, .int 0])), (q21, .inr (5, [.int 12, .ref q22, .int 1150, .int 0, .int 0, .int 0])), (q22, .inr (4, [.int 0, .int 0, .int 0, .int 0])), (q23, .inr (3, [.ref q24, .ref q25, .int 1, .int (-4), .int 0])), (q24, .inr (4, [.int 0, .int 0, .int 0, .int 0])), (q25, .inr (4, [.int 0, .int 0, .int 0, .int 0]))] := wo
  refine nrm_v ?_
  refine ast_q (j := 3) (n := 0) (qk := 23) (t0 := 2) (r := ("HotAisle$Ladle", TX3, 5)) cx wo rfl rfl rfl rfl rfl (by decide) (by decide) dX0_init_160 (fun H locs wo => ?_)
  have wo : Wo G A s.heap H locs [(a, .inr (0, [.ref q1, .ref q2, .ref q3, .ref q4, .ref q7, .ref q10, .int 0, .int 12, .int 0])), (q1, .inr (4, [.int 0, .int 0, .int 0, .int 0])), (q2, .inl (G.2 1, 3, .inr (.inr (.inr (.inr (va_up (va_up (va_up (fun _ => none) 0 (some q17)) 1 (some q19)) 2 (some q21))))))), (q3, .inl (G.2 2, 4, .inr (.inr (.inr (.inr (va_up (fun _ => none) 0 (some q23))))))), (q4, .inr (2, [.int 0, .ref q5, .ref q6, .int 3, .int 0, .int 0])), (q5, .inl (G.2 0, 8, .inl (fun _ => 0))), (q6, .inl (G.2 0, 8, .inl (fun _ => 0))), (q7, .inr (2, [.int 1, .ref q8, .ref q9, .int 11, .int 0, .int 0])), (q8, .inl (G.2 0, 8, .inl (fun _ => 0))), (q9, .inl (G.2 0, 8, .inl (fun _ => 0))), (q10, .inr (1, [.ref q11, .ref q12, .ref q13, .ref q14, .ref q15, .ref q16, .int 0, .int 0, .int 0, .int 0, .int 0, .int 0])), (q11, .inr (4, [.int 0, .int 0, .int 0, .int 0])), (q12, .inr (4, [.int 0, .int 0, .int 0, .int 0])), (q13, .inr (4, [.int 0, .int 0, .int 0, .int 0])), (q14, .inr (4, [.int 0, .int 0, .int 0, .int 0])), (q15, .inr (4, [.int 0, .int 0, .int 0, .int 0])), (q16, .inr (4, [.int 0, .int 0, .int 0, .int 0])), (q17, .inr (5, [.int 4, .ref q18, .int 1150, .int 0, .int 0, .int 0])), (q18, .inr (4, [.int 0, .int 0, .int 0, .int 0])), (q19, .inr (5, [.int 8, .ref q20, .int 1150, .int 0, .int 0, .int 0])), (q20, .inr (4, [.int 0, .int 0, .int 0, .int 0])), (q21, .inr (5, [.int 12, .ref q22, .int 1150, .int 0, .int 0, .int 0])), (q22, .inr (4, [.int 0, .int 0, .int 0, .int 0])), (q23, .inr (3, [.ref q24, .ref q25, .int 1, .int (-4), .int 0])), (q24, .inr (4, [.int 0, .int 0, .int 0, .int 0])), (q25, .inr (4, [.int 0, .int 0, .int 0, .int 0]))] := wo
  refine lv_iinc (v := 1) (lv' := [(1, .int 1), (0, .ref a)]) hx hb dX0_init_161 hl (k := 0) rfl (by decide) (by decide) rfl (fun ls hl => ?_)
  refine lv_goto (tgt := 126) hx hb dX0_init_164 (by decide) ?_
  refine lv_iload_n hx hb dX0_init_126 rfl (lv_at hl 0 rfl) ?_
  refine lv_aload_n hx hb dX0_init_127 rfl (lv_at hl 1 rfl) ?_
  refine gf (fun X => X) Fr_id cx wo (j := 0) rfl rfl (k := 2) (by decide) in_aisle rfl m_252 rfl dX0_init_128 ?_
  refine alen (v := 4) (fun X => X) Fr_id cx wo (j := 3) rfl (t0 := 2) rfl rfl dX0_init_131 ?_
  refine lv_icmp_ge (tgt := 167) hx hb dX0_init_132 (by decide) (fun h => absurd h (by decide)) (fun _ => ?_)
  refine lv_iload_n hx hb dX0_init_135 rfl (lv_at hl 0 rfl) ?_
  refine va_getsN hx hb hZ2 wo.2.2 hown (va_Nw.use rfl kn.2.2.2.1) (fun _ h => h) dX0_init_136 ?_
  refine va_tlen hx hb hT2 wo.2.2 (v := 4) rfl dX0_init_139 ?_
  refine lv_icmp_ge (tgt := 167) hx hb dX0_init_140 (by decide) (fun h => absurd h (by decide)) (fun _ => ?_)
  refine lv_aload_n hx hb dX0_init_143 rfl (lv_at hl 1 rfl) ?_
  refine gf (fun X => X) Fr_id cx wo (j := 0) rfl rfl (k := 2) (by decide) in_aisle rfl m_252 rfl dX0_init_144 ?_
  refine lv_iload_n hx hb dX0_init_147 rfl (lv_at hl 0 rfl) ?_
  refine nobj (ci := 3) (fs := [.null, .null, .int 0, .int 0, .int 0]) cx wo in_ladle tyX3 tyX3_ok m_94 m_222 m_45 rfl (fun j hj => by rcases (show j = 0 ∨ j = 1 ∨ j = 2 ∨ j = 3 ∨ j = 4 by omega) with rfl | rfl | rfl | rfl | rfl <;> rfl) (by decide) (by decide) dX0_init_148 (fun q26 H wo => ?_)
  have wo : Wo G A s.heap H locs [(a, .inr (0, [.ref q1, .ref q2, .ref q3, .ref q4, .ref q7, .ref q10, .int 0, .int 12, .int 0])), (q1, .inr (4, [.int 0, .int 0, .int 0, .int 0])), (q2, .inl (G.2 1, 3, .inr (.inr (.inr (.inr (va_up (va_up (va_up (fun _ => none) 0 (some q17)) 1 (some q19)) 2 (some q21))))))), (q3, .inl (G.2 2, 4, .inr (.inr (.inr (.inr (va_up (fun _ => none) 0 (some q23))))))), (q4, .inr (2, [.int 0, .ref q5, .ref q6, .int 3, .int 0, .int 0])), (q5, .inl (G.2 0, 8, .inl (fun _ => 0))), (q6, .inl (G.2 0, 8, .inl (fun _ => 0))), (q7, .inr (2, [.int 1, .ref q8, .ref q9, .int 11, .int 0, .int 0])), (q8, .inl (G.2 0, 8, .inl (fun _ => 0))), (q9, .inl (G.2 0, 8, .inl (fun _ => 0))), (q10, .inr (1, [.ref q11, .ref q12, .ref q13, .ref q14, .ref q15, .ref q16, .int 0, .int 0, .int 0, .int 0, .int 0, .int 0])), (q11, .inr (4, [.int 0, .int 0, .int 0, .int 0])), (q12, .inr (4, [.int 0, .int 0, .int 0, .int 0])), (q13, .inr (4, [.int 0, .int 0, .int 0, .int 0])), (q14, .inr (4, [.int 0, .int 0, .int 0, .int 0])), (q15, .inr (4, [.int 0, .int 0, .int 0, .int 0])), (q16, .inr (4, [.int 0, .int 0, .int 0, .int 0])), (q17, .inr (5, [.int 4, .ref q18, .int 1150, .int 0, .int 0, .int 0])), (q18, .inr (4, [.int 0, .int 0, .int 0, .int 0])), (q19, .inr (5, [.int 8, .ref q20, .int 1150, .int 0, .int 0, .int 0])), (q20, .inr (4, [.int 0, .int 0, .int 0, .int 0])), (q21, .inr (5, [.int 12, .ref q22, .int 1150, .int 0, .int 0, .int 0])), (q22, .inr (4, [.int 0, .int 0, .int 0, .int 0])), (q23, .inr (3, [.ref q24, .ref q25, .int 1, .int (-4), .int 0])), (q24, .inr (4, [.int 0, .int 0, .int 0, .int 0])), (q25, .inr (4, [.int 0, .int 0, .int 0, .int 0])), (q26, .inr (3, [.null, .null, .int 0, .int 0, .int 0]))] := wo
  refine lv_dup hx hb dX0_init_151 rfl ?_
  refine va_getsN hx hb hZ2 wo.2.2 hown (va_Nw.use rfl kn.2.2.2.1) (fun _ h => h) dX0_init_152 ?_
  refine lv_iload_n hx hb dX0_init_155 rfl (lv_at hl 0 rfl) ?_
  refine va_ti hx hb hT2 wo.2.2 (vp_in_nI (n := 1) (by decide) (by decide)) (v := .int 6) (by decide +kernel) dX0_init_156 ?_
  refine call_I (As := [.int 6]) (rest := [.ref q26, .int 1, .ref q3]) (fun X => [(a, .inr (0, [.ref q1, .ref q2, .ref q3, .ref q4, .ref q7, .ref q10, .int 0, .int 12, .int 0])), (q1, .inr (4, [.int 0, .int 0, .int 0, .int 0])), (q2, .inl (G.2 1, 3, .inr (.inr (.inr (.inr (va_up (va_up (va_up (fun _ => none) 0 (some q17)) 1 (some q19)) 2 (some q21))))))), (q3, .inl (G.2 2, 4, .inr (.inr (.inr (.inr (va_up (fun _ => none) 0 (some q23))))))), (q4, .inr (2, [.int 0, .ref q5, .ref q6, .int 3, .int 0, .int 0])), (q5, .inl (G.2 0, 8, .inl (fun _ => 0))), (q6, .inl (G.2 0, 8, .inl (fun _ => 0))), (q7, .inr (2, [.int 1, .ref q8, .ref q9, .int 11, .int 0, .int 0])), (q8, .inl (G.2 0, 8, .inl (fun _ => 0))), (q9, .inl (G.2 0, 8, .inl (fun _ => 0))), (q10, .inr (1, [.ref q11, .ref q12, .ref q13, .ref q14, .ref q15, .ref q16, .int 0, .int 0, .int 0, .int 0, .int 0, .int 0])), (q11, .inr (4, [.int 0, .int 0, .int 0, .int 0])), (q12, .inr (4, [.int 0, .int 0, .int 0, .int 0])), (q13, .inr (4, [.int 0, .int 0, .int 0, .int 0])), (q14, .inr (4, [.int 0, .int 0, .int 0, .int 0])), (q15, .inr (4, [.int 0, .int 0, .int 0, .int 0])), (q16, .inr (4, [.int 0, .int 0, .int 0, .int 0])), (q17, .inr (5, [.int 4, .ref q18, .int 1150, .int 0, .int 0, .int 0])), (q18, .inr (4, [.int 0, .int 0, .int 0, .int 0])), (q19, .inr (5, [.int 8, .ref q20, .int 1150, .int 0, .int 0, .int 0])), (q20, .inr (4, [.int 0, .int 0, .int 0, .int 0])), (q21, .inr (5, [.int 12, .ref q22, .int 1150, .int 0, .int 0, .int 0])), (q22, .inr (4, [.int 0, .int 0, .int 0, .int 0])), (q23, .inr (3, [.ref q24, .ref q25, .int 1, .int (-4), .int 0])), (q24, .inr (4, [.int 0, .int 0, .int 0, .int 0])), (q25, .inr (4, [.int 0, .int 0, .int 0, .int 0]))] ++ X) (Fr_r _) cx (c_X3_init l G q26 6) fx_X3_init m_223 m_224 rfl ⟨by decide, by decide⟩ wo rfl hl.1 rfl (Nat.le_of_ble_eq_true rfl) dX0_init_157 ⟨by decide, by decide⟩ (fun v W1 H locs hp wo => ?_)
  obtain ⟨rfl, q27, q28, rfl⟩ := hp
  have wo : Wo G A s.heap H locs [(a, .inr (0, [.ref q1, .ref q2, .ref q3, .ref q4, .ref q7, .ref q10, .int 0, .int 12, .int 0])), (q1, .inr (4, [.int 0, .int 0, .int 0, .int 0])), (q2, .inl (G.2 1, 3, .inr (.inr (.inr (.inr (va_up (va_up (va_up (fun _ => none) 0 (some q17)) 1 (some q19)) 2 (some q21))))))), (q3, .inl (G.2 2, 4, .inr (.inr (.inr (.inr (va_up (fun _ => none) 0 (some q23))))))), (q4, .inr (2, [.int 0, .ref q5, .ref q6, .int 3, .int 0, .int 0])), (q5, .inl (G.2 0, 8, .inl (fun _ => 0))), (q6, .inl (G.2 0, 8, .inl (fun _ => 0))), (q7, .inr (2, [.int 1, .ref q8, .ref q9, .int 11, .int 0, .int 0])), (q8, .inl (G.2 0, 8, .inl (fun _ => 0))), (q9, .inl (G.2 0, 8, .inl (fun _ => 0))), (q10, .inr (1, [.ref q11, .ref q12, .ref q13, .ref q14, .ref q15, .ref q16, .int 0, .int 0, .int 0, .int 0, .int 0, .int 0])), (q11, .inr (4, [.int 0, .int 0, .int 0, .int 0])), (q12, .inr (4, [.int 0, .int 0, .int 0, .int 0])), (q13, .inr (4, [.int 0, .int 0, .int 0, .int 0])), (q14, .inr (4, [.int 0, .int 0, .int 0, .int 0])), (q15, .inr (4, [.int 0, .int 0, .int 0, .int 0])), (q16, .inr (4, [.int 0, .int 0, .int 0, .int 0])), (q17, .inr (5, [.int 4, .ref q18, .int 1150, .int 0, .int 0, .int 0])), (q18, .inr (4, [.int 0, .int 0, .int 0, .int 0])), (q19, .inr (5, [.int 8, .ref q20, .int 1150, .int 0, .int 0, .int 0])), (q20, .inr (4, [.int 0, .int 0, .int 0, .int 0])), (q21, .inr (5, [.int 12, .ref q22, .int 1150, .int 0, .int 0, .int 0])), (q22, .inr (4, [.int 0, .int 0, .int 0, .int 0])), (q23, .inr (3, [.ref q24, .ref q25, .int 1, .int (-4), .int 0])), (q24, .inr (4, [.int 0, .int 0, .int 0, .int 0])), (q25, .inr (4, [.int 0, .int 0, .int 0, .int 0])), (q26, .inr (3, [.ref q27, .ref q28, .int 6, .int (-4), .int 0])), (q27, .inr (4, [.int 0, .int 0, .int 0, .int 0])), (q28, .inr (4, [.int 0, .int 0, .int 0, .int 0]))] := wo
  refine nrm_v ?_
  refine ast_q (j := 3) (n := 1) (qk := 26) (t0 := 2) (r := ("HotAisle$Ladle", TX3, 5)) cx wo rfl rfl rfl rfl rfl (by decide) (by decide) dX0_init_160 (fun H locs wo => ?_)
  have wo : Wo G A s.heap H locs [(a, .inr (0, [.ref q1, .ref q2, .ref q3, .ref q4, .ref q7, .ref q10, .int 0, .int 12, .int 0])), (q1, .inr (4, [.int 0, .int 0, .int 0, .int 0])), (q2, .inl (G.2 1, 3, .inr (.inr (.inr (.inr (va_up (va_up (va_up (fun _ => none) 0 (some q17)) 1 (some q19)) 2 (some q21))))))), (q3, .inl (G.2 2, 4, .inr (.inr (.inr (.inr (va_up (va_up (fun _ => none) 0 (some q23)) 1 (some q26))))))), (q4, .inr (2, [.int 0, .ref q5, .ref q6, .int 3, .int 0, .int 0])), (q5, .inl (G.2 0, 8, .inl (fun _ => 0))), (q6, .inl (G.2 0, 8, .inl (fun _ => 0))), (q7, .inr (2, [.int 1, .ref q8, .ref q9, .int 11, .int 0, .int 0])), (q8, .inl (G.2 0, 8, .inl (fun _ => 0))), (q9, .inl (G.2 0, 8, .inl (fun _ => 0))), (q10, .inr (1, [.ref q11, .ref q12, .ref q13, .ref q14, .ref q15, .ref q16, .int 0, .int 0, .int 0, .int 0, .int 0, .int 0])), (q11, .inr (4, [.int 0, .int 0, .int 0, .int 0])), (q12, .inr (4, [.int 0, .int 0, .int 0, .int 0])), (q13, .inr (4, [.int 0, .int 0, .int 0, .int 0])), (q14, .inr (4, [.int 0, .int 0, .int 0, .int 0])), (q15, .inr (4, [.int 0, .int 0, .int 0, .int 0])), (q16, .inr (4, [.int 0, .int 0, .int 0, .int 0])), (q17, .inr (5, [.int 4, .ref q18, .int 1150, .int 0, .int 0, .int 0])), (q18, .inr (4, [.int 0, .int 0, .int 0, .int 0])), (q19, .inr (5, [.int 8, .ref q20, .int 1150, .int 0, .int 0, .int 0])), (q20, .inr (4, [.int 0, .int 0, .int 0, .int 0])), (q21, .inr (5, [.int 12, .ref q22, .int 1150, .int 0, .int 0, .int 0])), (q22, .inr (4, [.int 0, .int 0, .int 0, .int 0])), (q23, .inr (3, [.ref q24, .ref q25, .int 1, .int (-4), .int 0])), (q24, .inr (4, [.int 0, .int 0, .int 0, .int 0])), (q25, .inr (4, [.int 0, .int 0, .int 0, .int 0])), (q26, .inr (3, [.ref q27, .ref q28, .int 6, .int (-4), .int 0])), (q27, .inr (4, [.int 0, .int 0, .int 0, .int 0])), (q28, .inr (4, [.int 0, .int 0, .int 0, .int 0]))] := wo
  refine lv_iinc (v := 2) (lv' := [(1, .int 2), (0, .ref a)]) hx hb dX0_init_161 hl (k := 0) rfl (by decide) (by decide) rfl (fun ls hl => ?_)
  refine lv_goto (tgt := 126) hx hb dX0_init_164 (by decide) ?_
  refine lv_iload_n hx hb dX0_init_126 rfl (lv_at hl 0 rfl) ?_
  refine lv_aload_n hx hb dX0_init_127 rfl (lv_at hl 1 rfl) ?_
  refine gf (fun X => X) Fr_id cx wo (j := 0) rfl rfl (k := 2) (by decide) in_aisle rfl m_252 rfl dX0_init_128 ?_
  refine alen (v := 4) (fun X => X) Fr_id cx wo (j := 3) rfl (t0 := 2) rfl rfl dX0_init_131 ?_
  refine lv_icmp_ge (tgt := 167) hx hb dX0_init_132 (by decide) (fun h => absurd h (by decide)) (fun _ => ?_)
  refine lv_iload_n hx hb dX0_init_135 rfl (lv_at hl 0 rfl) ?_
  refine va_getsN hx hb hZ2 wo.2.2 hown (va_Nw.use rfl kn.2.2.2.1) (fun _ h => h) dX0_init_136 ?_
  refine va_tlen hx hb hT2 wo.2.2 (v := 4) rfl dX0_init_139 ?_
  refine lv_icmp_ge (tgt := 167) hx hb dX0_init_140 (by decide) (fun h => absurd h (by decide)) (fun _ => ?_)
  refine lv_aload_n hx hb dX0_init_143 rfl (lv_at hl 1 rfl) ?_
  refine gf (fun X => X) Fr_id cx wo (j := 0) rfl rfl (k := 2) (by decide) in_aisle rfl m_252 rfl dX0_init_144 ?_
  refine lv_iload_n hx hb dX0_init_147 rfl (lv_at hl 0 rfl) ?_
  refine nobj (ci := 3) (fs := [.null, .null, .int 0, .int 0, .int 0]) cx wo in_ladle tyX3 tyX3_ok m_94 m_222 m_45 rfl (fun j hj => by rcases (show j = 0 ∨ j = 1 ∨ j = 2 ∨ j = 3 ∨ j = 4 by omega) with rfl | rfl | rfl | rfl | rfl <;> rfl) (by decide) (by decide) dX0_init_148 (fun q29 H wo => ?_)
  have wo : Wo G A s.heap H locs [(a, .inr (0, [.ref q1, .ref q2, .ref q3, .ref q4, .ref q7, .ref q10, .int 0, .int 12, .int 0])), (q1, .inr (4, [.int 0, .int 0, .int 0, .int 0])), (q2, .inl (G.2 1, 3, .inr (.inr (.inr (.inr (va_up (va_up (va_up (fun _ => none) 0 (some q17)) 1 (some q19)) 2 (some q21))))))), (q3, .inl (G.2 2, 4, .inr (.inr (.inr (.inr (va_up (va_up (fun _ => none) 0 (some q23)) 1 (some q26))))))), (q4, .inr (2, [.int 0, .ref q5, .ref q6, .int 3, .int 0, .int 0])), (q5, .inl (G.2 0, 8, .inl (fun _ => 0))), (q6, .inl (G.2 0, 8, .inl (fun _ => 0))), (q7, .inr (2, [.int 1, .ref q8, .ref q9, .int 11, .int 0, .int 0])), (q8, .inl (G.2 0, 8, .inl (fun _ => 0))), (q9, .inl (G.2 0, 8, .inl (fun _ => 0))), (q10, .inr (1, [.ref q11, .ref q12, .ref q13, .ref q14, .ref q15, .ref q16, .int 0, .int 0, .int 0, .int 0, .int 0, .int 0])), (q11, .inr (4, [.int 0, .int 0, .int 0, .int 0])), (q12, .inr (4, [.int 0, .int 0, .int 0, .int 0])), (q13, .inr (4, [.int 0, .int 0, .int 0, .int 0])), (q14, .inr (4, [.int 0, .int 0, .int 0, .int 0])), (q15, .inr (4, [.int 0, .int 0, .int 0, .int 0])), (q16, .inr (4, [.int 0, .int 0, .int 0, .int 0])), (q17, .inr (5, [.int 4, .ref q18, .int 1150, .int 0, .int 0, .int 0])), (q18, .inr (4, [.int 0, .int 0, .int 0, .int 0])), (q19, .inr (5, [.int 8, .ref q20, .int 1150, .int 0, .int 0, .int 0])), (q20, .inr (4, [.int 0, .int 0, .int 0, .int 0])), (q21, .inr (5, [.int 12, .ref q22, .int 1150, .int 0, .int 0, .int 0])), (q22, .inr (4, [.int 0, .int 0, .int 0, .int 0])), (q23, .inr (3, [.ref q24, .ref q25, .int 1, .int (-4), .int 0])), (q24, .inr (4, [.int 0, .int 0, .int 0, .int 0])), (q25, .inr (4, [.int 0, .int 0, .int 0, .int 0])), (q26, .inr (3, [.ref q27, .ref q28, .int 6, .int (-4), .int 0])), (q27, .inr (4, [.int 0, .int 0, .int 0, .int 0])), (q28, .inr (4, [.int 0, .int 0, .int 0, .int 0])), (q29, .inr (3, [.null, .null, .int 0, .int 0, .int 0]))] := wo
  refine lv_dup hx hb dX0_init_151 rfl ?_
  refine va_getsN hx hb hZ2 wo.2.2 hown (va_Nw.use rfl kn.2.2.2.1) (fun _ h => h) dX0_init_152 ?_
  refine lv_iload_n hx hb dX0_init_155 rfl (lv_at hl 0 rfl) ?_
  refine va_ti hx hb hT2 wo.2.2 (vp_in_nI (n := 2) (by decide) (by decide)) (v := .int 10) (by decide +kernel) dX0_init_156 ?_
  refine call_I (As := [.int 10]) (rest := [.ref q29, .int 2, .ref q3]) (fun X => [(a, .inr (0, [.ref q1, .ref q2, .ref q3, .ref q4, .ref q7, .ref q10, .int 0, .int 12, .int 0])), (q1, .inr (4, [.int 0, .int 0, .int 0, .int 0])), (q2, .inl (G.2 1, 3, .inr (.inr (.inr (.inr (va_up (va_up (va_up (fun _ => none) 0 (some q17)) 1 (some q19)) 2 (some q21))))))), (q3, .inl (G.2 2, 4, .inr (.inr (.inr (.inr (va_up (va_up (fun _ => none) 0 (some q23)) 1 (some q26))))))), (q4, .inr (2, [.int 0, .ref q5, .ref q6, .int 3, .int 0, .int 0])), (q5, .inl (G.2 0, 8, .inl (fun _ => 0))), (q6, .inl (G.2 0, 8, .inl (fun _ => 0))), (q7, .inr (2, [.int 1, .ref q8, .ref q9, .int 11, .int 0, .int 0])), (q8, .inl (G.2 0, 8, .inl (fun _ => 0))), (q9, .inl (G.2 0, 8, .inl (fun _ => 0))), (q10, .inr (1, [.ref q11, .ref q12, .ref q13, .ref q14, .ref q15, .ref q16, .int 0, .int 0, .int 0, .int 0, .int 0, .int 0])), (q11, .inr (4, [.int 0, .int 0, .int 0, .int 0])), (q12, .inr (4, [.int 0, .int 0, .int 0, .int 0])), (q13, .inr (4, [.int 0, .int 0, .int 0, .int 0])), (q14, .inr (4, [.int 0, .int 0, .int 0, .int 0])), (q15, .inr (4, [.int 0, .int 0, .int 0, .int 0])), (q16, .inr (4, [.int 0, .int 0, .int 0, .int 0])), (q17, .inr (5, [.int 4, .ref q18, .int 1150, .int 0, .int 0, .int 0])), (q18, .inr (4, [.int 0, .int 0, .int 0, .int 0])), (q19, .inr (5, [.int 8, .ref q20, .int 1150, .int 0, .int 0, .int 0])), (q20, .inr (4, [.int 0, .int 0, .int 0, .int 0])), (q21, .inr (5, [.int 12, .ref q22, .int 1150, .int 0, .int 0, .int 0])), (q22, .inr (4, [.int 0, .int 0, .int 0, .int 0])), (q23, .inr (3, [.ref q24, .ref q25, .int 1, .int (-4), .int 0])), (q24, .inr (4, [.int 0, .int 0, .int 0, .int 0])), (q25, .inr (4, [.int 0, .int 0, .int 0, .int 0])), (q26, .inr (3, [.ref q27, .ref q28, .int 6, .int (-4), .int 0])), (q27, .inr (4, [.int 0, .int 0, .int 0, .int 0])), (q28, .inr (4, [.int 0, .int 0, .int 0, .int 0]))] ++ X) (Fr_r _) cx (c_X3_init l G q29 10) fx_X3_init m_223 m_224 rfl ⟨by decide, by decide⟩ wo rfl hl.1 rfl (Nat.le_of_ble_eq_true rfl) dX0_init_157 ⟨by decide, by decide⟩ (fun v W1 H locs hp wo => ?_)
  obtain ⟨rfl, q30, q31, rfl⟩ := hp
  have wo : Wo G A s.heap H locs [(a, .inr (0, [.ref q1, .ref q2, .ref q3, .ref q4, .ref q7, .ref q10, .int 0, .int 12, .int 0])), (q1, .inr (4, [.int 0, .int 0, .int 0, .int 0])), (q2, .inl (G.2 1, 3, .inr (.inr (.inr (.inr (va_up (va_up (va_up (fun _ => none) 0 (some q17)) 1 (some q19)) 2 (some q21))))))), (q3, .inl (G.2 2, 4, .inr (.inr (.inr (.inr (va_up (va_up (fun _ => none) 0 (some q23)) 1 (some q26))))))), (q4, .inr (2, [.int 0, .ref q5, .ref q6, .int 3, .int 0, .int 0])), (q5, .inl (G.2 0, 8, .inl (fun _ => 0))), (q6, .inl (G.2 0, 8, .inl (fun _ => 0))), (q7, .inr (2, [.int 1, .ref q8, .ref q9, .int 11, .int 0, .int 0])), (q8, .inl (G.2 0, 8, .inl (fun _ => 0))), (q9, .inl (G.2 0, 8, .inl (fun _ => 0))), (q10, .inr (1, [.ref q11, .ref q12, .ref q13, .ref q14, .ref q15, .ref q16, .int 0, .int 0, .int 0, .int 0, .int 0, .int 0])), (q11, .inr (4, [.int 0, .int 0, .int 0, .int 0])), (q12, .inr (4, [.int 0, .int 0, .int 0, .int 0])), (q13, .inr (4, [.int 0, .int 0, .int 0, .int 0])), (q14, .inr (4, [.int 0, .int 0, .int 0, .int 0])), (q15, .inr (4, [.int 0, .int 0, .int 0, .int 0])), (q16, .inr (4, [.int 0, .int 0, .int 0, .int 0])), (q17, .inr (5, [.int 4, .ref q18, .int 1150, .int 0, .int 0, .int 0])), (q18, .inr (4, [.int 0, .int 0, .int 0, .int 0])), (q19, .inr (5, [.int 8, .ref q20, .int 1150, .int 0, .int 0, .int 0])), (q20, .inr (4, [.int 0, .int 0, .int 0, .int 0])), (q21, .inr (5, [.int 12, .ref q22, .int 1150, .int 0, .int 0, .int 0])), (q22, .inr (4, [.int 0, .int 0, .int 0, .int 0])), (q23, .inr (3, [.ref q24, .ref q25, .int 1, .int (-4), .int 0])), (q24, .inr (4, [.int 0, .int 0, .int 0, .int 0])), (q25, .inr (4, [.int 0, .int 0, .int 0, .int 0])), (q26, .inr (3, [.ref q27, .ref q28, .int 6, .int (-4), .int 0])), (q27, .inr (4, [.int 0, .int 0, .int 0, .int 0])), (q28, .inr (4, [.int 0, .int 0, .int 0, .int 0])), (q29, .inr (3, [.ref q30, .ref q31, .int 10, .int (-4), .int 0])), (q30, .inr (4, [.int 0, .int 0, .int 0, .int 0])), (q31, .inr (4, [.int 0, .int 0, .int 0, .int 0]))] := wo
  refine nrm_v ?_
  refine ast_q (j := 3) (n := 2) (qk := 29) (t0 := 2) (r := ("HotAisle$Ladle", TX3, 5)) cx wo rfl rfl rfl rfl rfl (by decide) (by decide) dX0_init_160 (fun H locs wo => ?_)
  have wo : Wo G A s.heap H locs [(a, .inr (0, [.ref q1, .ref q2, .ref q3, .ref q4, .ref q7, .ref q10, .int 0, .int 12, .int 0])), (q1, .inr (4, [.int 0, .int 0, .int 0, .int 0])), (q2, .inl (G.2 1, 3, .inr (.inr (.inr (.inr (va_up (va_up (va_up (fun _ => none) 0 (some q17)) 1 (some q19)) 2 (some q21))))))), (q3, .inl (G.2 2, 4, .inr (.inr (.inr (.inr (va_up (va_up (va_up (fun _ => none) 0 (some q23)) 1 (some q26)) 2 (some q29))))))), (q4, .inr (2, [.int 0, .ref q5, .ref q6, .int 3, .int 0, .int 0])), (q5, .inl (G.2 0, 8, .inl (fun _ => 0))), (q6, .inl (G.2 0, 8, .inl (fun _ => 0))), (q7, .inr (2, [.int 1, .ref q8, .ref q9, .int 11, .int 0, .int 0])), (q8, .inl (G.2 0, 8, .inl (fun _ => 0))), (q9, .inl (G.2 0, 8, .inl (fun _ => 0))), (q10, .inr (1, [.ref q11, .ref q12, .ref q13, .ref q14, .ref q15, .ref q16, .int 0, .int 0, .int 0, .int 0, .int 0, .int 0])), (q11, .inr (4, [.int 0, .int 0, .int 0, .int 0])), (q12, .inr (4, [.int 0, .int 0, .int 0, .int 0])), (q13, .inr (4, [.int 0, .int 0, .int 0, .int 0])), (q14, .inr (4, [.int 0, .int 0, .int 0, .int 0])), (q15, .inr (4, [.int 0, .int 0, .int 0, .int 0])), (q16, .inr (4, [.int 0, .int 0, .int 0, .int 0])), (q17, .inr (5, [.int 4, .ref q18, .int 1150, .int 0, .int 0, .int 0])), (q18, .inr (4, [.int 0, .int 0, .int 0, .int 0])), (q19, .inr (5, [.int 8, .ref q20, .int 1150, .int 0, .int 0, .int 0])), (q20, .inr (4, [.int 0, .int 0, .int 0, .int 0])), (q21, .inr (5, [.int 12, .ref q22, .int 1150, .int 0, .int 0, .int 0])), (q22, .inr (4, [.int 0, .int 0, .int 0, .int 0])), (q23, .inr (3, [.ref q24, .ref q25, .int 1, .int (-4), .int 0])), (q24, .inr (4, [.int 0, .int 0, .int 0, .int 0])), (q25, .inr (4, [.int 0, .int 0, .int 0, .int 0])), (q26, .inr (3, [.ref q27, .ref q28, .int 6, .int (-4), .int 0])), (q27, .inr (4, [.int 0, .int 0, .int 0, .int 0])), (q28, .inr (4, [.int 0, .int 0, .int 0, .int 0])), (q29, .inr (3, [.ref q30, .ref q31, .int 10, .int (-4), .int 0])), (q30, .inr (4, [.int 0, .int 0, .int 0, .int 0])), (q31, .inr (4, [.int 0, .int 0, .int 0, .int 0]))] := wo
  refine lv_iinc (v := 3) (lv' := [(1, .int 3), (0, .ref a)]) hx hb dX0_init_161 hl (k := 0) rfl (by decide) (by decide) rfl (fun ls hl => ?_)
  refine lv_goto (tgt := 126) hx hb dX0_init_164 (by decide) ?_
  refine lv_iload_n hx hb dX0_init_126 rfl (lv_at hl 0 rfl) ?_
  refine lv_aload_n hx hb dX0_init_127 rfl (lv_at hl 1 rfl) ?_
  refine gf (fun X => X) Fr_id cx wo (j := 0) rfl rfl (k := 2) (by decide) in_aisle rfl m_252 rfl dX0_init_128 ?_
  refine alen (v := 4) (fun X => X) Fr_id cx wo (j := 3) rfl (t0 := 2) rfl rfl dX0_init_131 ?_
  refine lv_icmp_ge (tgt := 167) hx hb dX0_init_132 (by decide) (fun h => absurd h (by decide)) (fun _ => ?_)
  refine lv_iload_n hx hb dX0_init_135 rfl (lv_at hl 0 rfl) ?_
  refine va_getsN hx hb hZ2 wo.2.2 hown (va_Nw.use rfl kn.2.2.2.1) (fun _ h => h) dX0_init_136 ?_
  refine va_tlen hx hb hT2 wo.2.2 (v := 4) rfl dX0_init_139 ?_
  refine lv_icmp_ge (tgt := 167) hx hb dX0_init_140 (by decide) (fun h => absurd h (by decide)) (fun _ => ?_)
  refine lv_aload_n hx hb dX0_init_143 rfl (lv_at hl 1 rfl) ?_
  refine gf (fun X => X) Fr_id cx wo (j := 0) rfl rfl (k := 2) (by decide) in_aisle rfl m_252 rfl dX0_init_144 ?_
  refine lv_iload_n hx hb dX0_init_147 rfl (lv_at hl 0 rfl) ?_
  refine nobj (ci := 3) (fs := [.null, .null, .int 0, .int 0, .int 0]) cx wo in_ladle tyX3 tyX3_ok m_94 m_222 m_45 rfl (fun j hj => by rcases (show j = 0 ∨ j = 1 ∨ j = 2 ∨ j = 3 ∨ j = 4 by omega) with rfl | rfl | rfl | rfl | rfl <;> rfl) (by decide) (by decide) dX0_init_148 (fun q32 H wo => ?_)
  have wo : Wo G A s.heap H locs [(a, .inr (0, [.ref q1, .ref q2, .ref q3, .ref q4, .ref q7, .ref q10, .int 0, .int 12, .int 0])), (q1, .inr (4, [.int 0, .int 0, .int 0, .int 0])), (q2, .inl (G.2 1, 3, .inr (.inr (.inr (.inr (va_up (va_up (va_up (fun _ => none) 0 (some q17)) 1 (some q19)) 2 (some q21))))))), (q3, .inl (G.2 2, 4, .inr (.inr (.inr (.inr (va_up (va_up (va_up (fun _ => none) 0 (some q23)) 1 (some q26)) 2 (some q29))))))), (q4, .inr (2, [.int 0, .ref q5, .ref q6, .int 3, .int 0, .int 0])), (q5, .inl (G.2 0, 8, .inl (fun _ => 0))), (q6, .inl (G.2 0, 8, .inl (fun _ => 0))), (q7, .inr (2, [.int 1, .ref q8, .ref q9, .int 11, .int 0, .int 0])), (q8, .inl (G.2 0, 8, .inl (fun _ => 0))), (q9, .inl (G.2 0, 8, .inl (fun _ => 0))), (q10, .inr (1, [.ref q11, .ref q12, .ref q13, .ref q14, .ref q15, .ref q16, .int 0, .int 0, .int 0, .int 0, .int 0, .int 0])), (q11, .inr (4, [.int 0, .int 0, .int 0, .int 0])), (q12, .inr (4, [.int 0, .int 0, .int 0, .int 0])), (q13, .inr (4, [.int 0, .int 0, .int 0, .int 0])), (q14, .inr (4, [.int 0, .int 0, .int 0, .int 0])), (q15, .inr (4, [.int 0, .int 0, .int 0, .int 0])), (q16, .inr (4, [.int 0, .int 0, .int 0, .int 0])), (q17, .inr (5, [.int 4, .ref q18, .int 1150, .int 0, .int 0, .int 0])), (q18, .inr (4, [.int 0, .int 0, .int 0, .int 0])), (q19, .inr (5, [.int 8, .ref q20, .int 1150, .int 0, .int 0, .int 0])), (q20, .inr (4, [.int 0, .int 0, .int 0, .int 0])), (q21, .inr (5, [.int 12, .ref q22, .int 1150, .int 0, .int 0, .int 0])), (q22, .inr (4, [.int 0, .int 0, .int 0, .int 0])), (q23, .inr (3, [.ref q24, .ref q25, .int 1, .int (-4), .int 0])), (q24, .inr (4, [.int 0, .int 0, .int 0, .int 0])), (q25, .inr (4, [.int 0, .int 0, .int 0, .int 0])), (q26, .inr (3, [.ref q27, .ref q28, .int 6, .int (-4), .int 0])), (q27, .inr (4, [.int 0, .int 0, .int 0, .int 0])), (q28, .inr (4, [.int 0, .int 0, .int 0, .int 0])), (q29, .inr (3, [.ref q30, .ref q31, .int 10, .int (-4), .int 0])), (q30, .inr (4, [.int 0, .int 0, .int 0, .int 0])), (q31, .inr (4, [.int 0, .int 0, .int 0, .int 0])), (q32, .inr (3, [.null, .null, .int 0, .int 0, .int 0]))] := wo
  refine lv_dup hx hb dX0_init_151 rfl ?_
  refine va_getsN hx hb hZ2 wo.2.2 hown (va_Nw.use rfl kn.2.2.2.1) (fun _ h => h) dX0_init_152 ?_
  refine lv_iload_n hx hb dX0_init_155 rfl (lv_at hl 0 rfl) ?_
  refine va_ti hx hb hT2 wo.2.2 (vp_in_nI (n := 3) (by decide) (by decide)) (v := .int 14) (by decide +kernel) dX0_init_156 ?_
  refine call_I (As := [.int 14]) (rest := [.ref q32, .int 3, .ref q3]) (fun X => [(a, .inr (0, [.ref q1, .ref q2, .ref q3, .ref q4, .ref q7, .ref q10, .int 0, .int 12, .int 0])), (q1, .inr (4, [.int 0, .int 0, .int 0, .int 0])), (q2, .inl (G.2 1, 3, .inr (.inr (.inr (.inr (va_up (va_up (va_up (fun _ => none) 0 (some q17)) 1 (some q19)) 2 (some q21))))))), (q3, .inl (G.2 2, 4, .inr (.inr (.inr (.inr (va_up (va_up (va_up (fun _ => none) 0 (some q23)) 1 (some q26)) 2 (some q29))))))), (q4, .inr (2, [.int 0, .ref q5, .ref q6, .int 3, .int 0, .int 0])), (q5, .inl (G.2 0, 8, .inl (fun _ => 0))), (q6, .inl (G.2 0, 8, .inl (fun _ => 0))), (q7, .inr (2, [.int 1, .ref q8, .ref q9, .int 11, .int 0, .int 0])), (q8, .inl (G.2 0, 8, .inl (fun _ => 0))), (q9, .inl (G.2 0, 8, .inl (fun _ => 0))), (q10, .inr (1, [.ref q11, .ref q12, .ref q13, .ref q14, .ref q15, .ref q16, .int 0, .int 0, .int 0, .int 0, .int 0, .int 0])), (q11, .inr (4, [.int 0, .int 0, .int 0, .int 0])), (q12, .inr (4, [.int 0, .int 0, .int 0, .int 0])), (q13, .inr (4, [.int 0, .int 0, .int 0, .int 0])), (q14, .inr (4, [.int 0, .int 0, .int 0, .int 0])), (q15, .inr (4, [.int 0, .int 0, .int 0, .int 0])), (q16, .inr (4, [.int 0, .int 0, .int 0, .int 0])), (q17, .inr (5, [.int 4, .ref q18, .int 1150, .int 0, .int 0, .int 0])), (q18, .inr (4, [.int 0, .int 0, .int 0, .int 0])), (q19, .inr (5, [.int 8, .ref q20, .int 1150, .int 0, .int 0, .int 0])), (q20, .inr (4, [.int 0, .int 0, .int 0, .int 0])), (q21, .inr (5, [.int 12, .ref q22, .int 1150, .int 0, .int 0, .int 0])), (q22, .inr (4, [.int 0, .int 0, .int 0, .int 0])), (q23, .inr (3, [.ref q24, .ref q25, .int 1, .int (-4), .int 0])), (q24, .inr (4, [.int 0, .int 0, .int 0, .int 0])), (q25, .inr (4, [.int 0, .int 0, .int 0, .int 0])), (q26, .inr (3, [.ref q27, .ref q28, .int 6, .int (-4), .int 0])), (q27, .inr (4, [.int 0, .int 0, .int 0, .int 0])), (q28, .inr (4, [.int 0, .int 0, .int 0, .int 0])), (q29, .inr (3, [.ref q30, .ref q31, .int 10, .int (-4), .int 0])), (q30, .inr (4, [.int 0, .int 0, .int 0, .int 0])), (q31, .inr (4, [.int 0, .int 0, .int 0, .int 0]))] ++ X) (Fr_r _) cx (c_X3_init l G q32 14) fx_X3_init m_223 m_224 rfl ⟨by decide, by decide⟩ wo rfl hl.1 rfl (Nat.le_of_ble_eq_true rfl) dX0_init_157 ⟨by decide, by decide⟩ (fun v W1 H locs hp wo => ?_)
  obtain ⟨rfl, q33, q34, rfl⟩ := hp
  have wo : Wo G A s.heap H locs [(a, .inr (0, [.ref q1, .ref q2, .ref q3, .ref q4, .ref q7, .ref q10, .int 0, .int 12, .int 0])), (q1, .inr (4, [.int 0, .int 0, .int 0, .int 0])), (q2, .inl (G.2 1, 3, .inr (.inr (.inr (.inr (va_up (va_up (va_up (fun _ => none) 0 (some q17)) 1 (some q19)) 2 (some q21))))))), (q3, .inl (G.2 2, 4, .inr (.inr (.inr (.inr (va_up (va_up (va_up (fun _ => none) 0 (some q23)) 1 (some q26)) 2 (some q29))))))), (q4, .inr (2, [.int 0, .ref q5, .ref q6, .int 3, .int 0, .int 0])), (q5, .inl (G.2 0, 8, .inl (fun _ => 0))), (q6, .inl (G.2 0, 8, .inl (fun _ => 0))), (q7, .inr (2, [.int 1, .ref q8, .ref q9, .int 11, .int 0, .int 0])), (q8, .inl (G.2 0, 8, .inl (fun _ => 0))), (q9, .inl (G.2 0, 8, .inl (fun _ => 0))), (q10, .inr (1, [.ref q11, .ref q12, .ref q13, .ref q14, .ref q15, .ref q16, .int 0, .int 0, .int 0, .int 0, .int 0, .int 0])), (q11, .inr (4, [.int 0, .int 0, .int 0, .int 0])), (q12, .inr (4, [.int 0, .int 0, .int 0, .int 0])), (q13, .inr (4, [.int 0, .int 0, .int 0, .int 0])), (q14, .inr (4, [.int 0, .int 0, .int 0, .int 0])), (q15, .inr (4, [.int 0, .int 0, .int 0, .int 0])), (q16, .inr (4, [.int 0, .int 0, .int 0, .int 0])), (q17, .inr (5, [.int 4, .ref q18, .int 1150, .int 0, .int 0, .int 0])), (q18, .inr (4, [.int 0, .int 0, .int 0, .int 0])), (q19, .inr (5, [.int 8, .ref q20, .int 1150, .int 0, .int 0, .int 0])), (q20, .inr (4, [.int 0, .int 0, .int 0, .int 0])), (q21, .inr (5, [.int 12, .ref q22, .int 1150, .int 0, .int 0, .int 0])), (q22, .inr (4, [.int 0, .int 0, .int 0, .int 0])), (q23, .inr (3, [.ref q24, .ref q25, .int 1, .int (-4), .int 0])), (q24, .inr (4, [.int 0, .int 0, .int 0, .int 0])), (q25, .inr (4, [.int 0, .int 0, .int 0, .int 0])), (q26, .inr (3, [.ref q27, .ref q28, .int 6, .int (-4), .int 0])), (q27, .inr (4, [.int 0, .int 0, .int 0, .int 0])), (q28, .inr (4, [.int 0, .int 0, .int 0, .int 0])), (q29, .inr (3, [.ref q30, .ref q31, .int 10, .int (-4), .int 0])), (q30, .inr (4, [.int 0, .int 0, .int 0, .int 0])), (q31, .inr (4, [.int 0, .int 0, .int 0, .int 0])), (q32, .inr (3, [.ref q33, .ref q34, .int 14, .int (-4), .int 0])), (q33, .inr (4, [.int 0, .int 0, .int 0, .int 0])), (q34, .inr (4, [.int 0, .int 0, .int 0, .int 0]))] := wo
  refine nrm_v ?_
  refine ast_q (j := 3) (n := 3) (qk := 32) (t0 := 2) (r := ("HotAisle$Ladle", TX3, 5)) cx wo rfl rfl rfl rfl rfl (by decide) (by decide) dX0_init_160 (fun H locs wo => ?_)
  have wo : Wo G A s.heap H locs [(a, .inr (0, [.ref q1, .ref q2, .ref q3, .ref q4, .ref q7, .ref q10, .int 0, .int 12, .int 0])), (q1, .inr (4, [.int 0, .int 0, .int 0, .int 0])), (q2, .inl (G.2 1, 3, .inr (.inr (.inr (.inr (va_up (va_up (va_up (fun _ => none) 0 (some q17)) 1 (some q19)) 2 (some q21))))))), (q3, .inl (G.2 2, 4, .inr (.inr (.inr (.inr (va_up (va_up (va_up (va_up (fun _ => none) 0 (some q23)) 1 (some q26)) 2 (some q29)) 3 (some q32))))))), (q4, .inr (2, [.int 0, .ref q5, .ref q6, .int 3, .int 0, .int 0])), (q5, .inl (G.2 0, 8, .inl (fun _ => 0))), (q6, .inl (G.2 0, 8, .inl (fun _ => 0))), (q7, .inr (2, [.int 1, .ref q8, .ref q9, .int 11, .int 0, .int 0])), (q8, .inl (G.2 0, 8, .inl (fun _ => 0))), (q9, .inl (G.2 0, 8, .inl (fun _ => 0))), (q10, .inr (1, [.ref q11, .ref q12, .ref q13, .ref q14, .ref q15, .ref q16, .int 0, .int 0, .int 0, .int 0, .int 0, .int 0])), (q11, .inr (4, [.int 0, .int 0, .int 0, .int 0])), (q12, .inr (4, [.int 0, .int 0, .int 0, .int 0])), (q13, .inr (4, [.int 0, .int 0, .int 0, .int 0])), (q14, .inr (4, [.int 0, .int 0, .int 0, .int 0])), (q15, .inr (4, [.int 0, .int 0, .int 0, .int 0])), (q16, .inr (4, [.int 0, .int 0, .int 0, .int 0])), (q17, .inr (5, [.int 4, .ref q18, .int 1150, .int 0, .int 0, .int 0])), (q18, .inr (4, [.int 0, .int 0, .int 0, .int 0])), (q19, .inr (5, [.int 8, .ref q20, .int 1150, .int 0, .int 0, .int 0])), (q20, .inr (4, [.int 0, .int 0, .int 0, .int 0])), (q21, .inr (5, [.int 12, .ref q22, .int 1150, .int 0, .int 0, .int 0])), (q22, .inr (4, [.int 0, .int 0, .int 0, .int 0])), (q23, .inr (3, [.ref q24, .ref q25, .int 1, .int (-4), .int 0])), (q24, .inr (4, [.int 0, .int 0, .int 0, .int 0])), (q25, .inr (4, [.int 0, .int 0, .int 0, .int 0])), (q26, .inr (3, [.ref q27, .ref q28, .int 6, .int (-4), .int 0])), (q27, .inr (4, [.int 0, .int 0, .int 0, .int 0])), (q28, .inr (4, [.int 0, .int 0, .int 0, .int 0])), (q29, .inr (3, [.ref q30, .ref q31, .int 10, .int (-4), .int 0])), (q30, .inr (4, [.int 0, .int 0, .int 0, .int 0])), (q31, .inr (4, [.int 0, .int 0, .int 0, .int 0])), (q32, .inr (3, [.ref q33, .ref q34, .int 14, .int (-4), .int 0])), (q33, .inr (4, [.int 0, .int 0, .int 0, .int 0])), (q34, .inr (4, [.int 0, .int 0, .int 0, .int 0]))] := wo
  refine lv_iinc (v := 4) (lv' := [(1, .int 4), (0, .ref a)]) hx hb dX0_init_161 hl (k := 0) rfl (by decide) (by decide) rfl (fun ls hl => ?_)
  refine lv_goto (tgt := 126) hx hb dX0_init_164 (by decide) ?_
  refine lv_iload_n hx hb dX0_init_126 rfl (lv_at hl 0 rfl) ?_
  refine lv_aload_n hx hb dX0_init_127 rfl (lv_at hl 1 rfl) ?_
  refine gf (fun X => X) Fr_id cx wo (j := 0) rfl rfl (k := 2) (by decide) in_aisle rfl m_252 rfl dX0_init_128 ?_
  refine alen (v := 4) (fun X => X) Fr_id cx wo (j := 3) rfl (t0 := 2) rfl rfl dX0_init_131 ?_
  refine lv_icmp_ge (tgt := 167) hx hb dX0_init_132 (by decide) (fun _ => ?_) (fun h => absurd (show ¬ _ from h) (by decide))
  obtain ⟨ad, had⟩ : ∃ ad : Nat → Nat, ad = fun j => ([q1, q18, q20, q22, q24, q27, q30, q33, q25, q28, q31, q34, a, q11, q12, q13, q14, q15, q16, q17, q19, q21, q23, q26, q29, q32, q4, q7, q10, q2, q3, q5, q8, q6, q9] : List Nat).getD j 0 := ⟨_, rfl⟩
  have wo := Wo_arr (k := 2) (fun i => some (ad (19 + i))) rfl (fun i hi => by rcases (show i = 0 ∨ i = 1 ∨ i = 2 by omega) with rfl | rfl | rfl <;> (subst had; rfl)) wo
  have wo := Wo_arr (k := 3) (fun i => some (ad (22 + i))) rfl (fun i hi => by rcases (show i = 0 ∨ i = 1 ∨ i = 2 ∨ i = 3 by omega) with rfl | rfl | rfl | rfl <;> (subst had; rfl)) wo
  have wo : Wo G A s.heap H locs [(a, .inr (0, [.ref q1, .ref q2, .ref q3, .ref q4, .ref q7, .ref q10, .int 0, .int 12, .int 0])), (q1, .inr (4, [.int 0, .int 0, .int 0, .int 0])), (q2, .inl (G.2 1, 3, .inr (.inr (.inr (.inr (fun i => some (ad (19 + i)))))))), (q3, .inl (G.2 2, 4, .inr (.inr (.inr (.inr (fun i => some (ad (22 + i)))))))), (q4, .inr (2, [.int 0, .ref q5, .ref q6, .int 3, .int 0, .int 0])), (q5, .inl (G.2 0, 8, .inl (fun _ => 0))), (q6, .inl (G.2 0, 8, .inl (fun _ => 0))), (q7, .inr (2, [.int 1, .ref q8, .ref q9, .int 11, .int 0, .int 0])), (q8, .inl (G.2 0, 8, .inl (fun _ => 0))), (q9, .inl (G.2 0, 8, .inl (fun _ => 0))), (q10, .inr (1, [.ref q11, .ref q12, .ref q13, .ref q14, .ref q15, .ref q16, .int 0, .int 0, .int 0, .int 0, .int 0, .int 0])), (q11, .inr (4, [.int 0, .int 0, .int 0, .int 0])), (q12, .inr (4, [.int 0, .int 0, .int 0, .int 0])), (q13, .inr (4, [.int 0, .int 0, .int 0, .int 0])), (q14, .inr (4, [.int 0, .int 0, .int 0, .int 0])), (q15, .inr (4, [.int 0, .int 0, .int 0, .int 0])), (q16, .inr (4, [.int 0, .int 0, .int 0, .int 0])), (q17, .inr (5, [.int 4, .ref q18, .int 1150, .int 0, .int 0, .int 0])), (q18, .inr (4, [.int 0, .int 0, .int 0, .int 0])), (q19, .inr (5, [.int 8, .ref q20, .int 1150, .int 0, .int 0, .int 0])), (q20, .inr (4, [.int 0, .int 0, .int 0, .int 0])), (q21, .inr (5, [.int 12, .ref q22, .int 1150, .int 0, .int 0, .int 0])), (q22, .inr (4, [.int 0, .int 0, .int 0, .int 0])), (q23, .inr (3, [.ref q24, .ref q25, .int 1, .int (-4), .int 0])), (q24, .inr (4, [.int 0, .int 0, .int 0, .int 0])), (q25, .inr (4, [.int 0, .int 0, .int 0, .int 0])), (q26, .inr (3, [.ref q27, .ref q28, .int 6, .int (-4), .int 0])), (q27, .inr (4, [.int 0, .int 0, .int 0, .int 0])), (q28, .inr (4, [.int 0, .int 0, .int 0, .int 0])), (q29, .inr (3, [.ref q30, .ref q31, .int 10, .int (-4), .int 0])), (q30, .inr (4, [.int 0, .int 0, .int 0, .int 0])), (q31, .inr (4, [.int 0, .int 0, .int 0, .int 0])), (q32, .inr (3, [.ref q33, .ref q34, .int 14, .int (-4), .int 0])), (q33, .inr (4, [.int 0, .int 0, .int 0, .int 0])), (q34, .inr (4, [.int 0, .int 0, .int 0, .int 0]))] := wo
  refine r2_v cx hQ wo dX0_init_167 ⟨rfl, ad, by subst had; rfl, ?_⟩
  have e : ([12, 0, 29, 30, 26, 31, 33, 27, 32, 34, 28, 13, 14, 15, 16, 17, 18, 19, 1, 20, 2, 21, 3, 22, 4, 8, 23, 5, 9, 24, 6, 10, 25, 7, 11] : List Nat).map (fun j => (ad j, ac G ad g0 j)) = [(a, .inr (0, [.ref q1, .ref q2, .ref q3, .ref q4, .ref q7, .ref q10, .int 0, .int 12, .int 0])), (q1, .inr (4, [.int 0, .int 0, .int 0, .int 0])), (q2, .inl (G.2 1, 3, .inr (.inr (.inr (.inr (fun i => some (ad (19 + i)))))))), (q3, .inl (G.2 2, 4, .inr (.inr (.inr (.inr (fun i => some (ad (22 + i)))))))), (q4, .inr (2, [.int 0, .ref q5, .ref q6, .int 3, .int 0, .int 0])), (q5, .inl (G.2 0, 8, .inl (fun _ => 0))), (q6, .inl (G.2 0, 8, .inl (fun _ => 0))), (q7, .inr (2, [.int 1, .ref q8, .ref q9, .int 11, .int 0, .int 0])), (q8, .inl (G.2 0, 8, .inl (fun _ => 0))), (q9, .inl (G.2 0, 8, .inl (fun _ => 0))), (q10, .inr (1, [.ref q11, .ref q12, .ref q13, .ref q14, .ref q15, .ref q16, .int 0, .int 0, .int 0, .int 0, .int 0, .int 0])), (q11, .inr (4, [.int 0, .int 0, .int 0, .int 0])), (q12, .inr (4, [.int 0, .int 0, .int 0, .int 0])), (q13, .inr (4, [.int 0, .int 0, .int 0, .int 0])), (q14, .inr (4, [.int 0, .int 0, .int 0, .int 0])), (q15, .inr (4, [.int 0, .int 0, .int 0, .int 0])), (q16, .inr (4, [.int 0, .int 0, .int 0, .int 0])), (q17, .inr (5, [.int 4, .ref q18, .int 1150, .int 0, .int 0, .int 0])), (q18, .inr (4, [.int 0, .int 0, .int 0, .int 0])), (q19, .inr (5, [.int 8, .ref q20, .int 1150, .int 0, .int 0, .int 0])), (q20, .inr (4, [.int 0, .int 0, .int 0, .int 0])), (q21, .inr (5, [.int 12, .ref q22, .int 1150, .int 0, .int 0, .int 0])), (q22, .inr (4, [.int 0, .int 0, .int 0, .int 0])), (q23, .inr (3, [.ref q24, .ref q25, .int 1, .int (-4), .int 0])), (q24, .inr (4, [.int 0, .int 0, .int 0, .int 0])), (q25, .inr (4, [.int 0, .int 0, .int 0, .int 0])), (q26, .inr (3, [.ref q27, .ref q28, .int 6, .int (-4), .int 0])), (q27, .inr (4, [.int 0, .int 0, .int 0, .int 0])), (q28, .inr (4, [.int 0, .int 0, .int 0, .int 0])), (q29, .inr (3, [.ref q30, .ref q31, .int 10, .int (-4), .int 0])), (q30, .inr (4, [.int 0, .int 0, .int 0, .int 0])), (q31, .inr (4, [.int 0, .int 0, .int 0, .int 0])), (q32, .inr (3, [.ref q33, .ref q34, .int 14, .int (-4), .int 0])), (q33, .inr (4, [.int 0, .int 0, .int 0, .int 0])), (q34, .inr (4, [.int 0, .int 0, .int 0, .int 0]))] := by
    simp only [List.map_cons, List.map_nil]
    rw [ac_row G ad (j := 31) (by decide) (by decide), ac_row G ad (j := 32) (by decide) (by decide), ac_row G ad (j := 33) (by decide) (by decide), ac_row G ad (j := 34) (by decide) (by decide)]
    subst had
    rfl
  rw [← e]
  exact x0_perm.map _
abbrev rm_X7_init : Room := { frames := 1, cells := 2, slots := 1350, locals := 20 }
def f0 : St := (upd (upd (upd (upd (upd (upd (upd (upd (upd (upd (upd (upd (upd (upd (upd (upd (fun _ => 0) 88 1) 92 (-1)) 89 6) 93 (-1)) 90 10) 94 (-1)) 91 14) 95 (-1)) 76 1150) 77 1150) 78 1150) 100 3) 101 11) 102 (-1)) 103 (-1)) 148 12)
set_option maxHeartbeats 4000000 in
set_option maxRecDepth 100000 in
theorem c_X7_init (l : Launch) (G : GG) (a : Nat) : Ct l G yX7_init cX7_init 2 (none : Option Jvm.ClassFile.FieldType) rm_X7_init [.ref a] [(a, .inr (7, [.null, .null, .int 0]))] (fun rv W1 => rv = none ∧ ∃ am : Nat → Nat, am 0 = a ∧ W1 = mw G am f0 (fun _ => 0) 0) := by
  refine Ct.mk2 (by decide) (Nat.le_of_ble_eq_true rfl) ?_
  intro p e s m args below meth c A H locs ls Q cx wo hl hQ
  obtain ⟨hx, hb, hml, hr, hlo, hown, hts, hnm, kn, hA⟩ := id cx
  have hl : lv_has ls 2 [(0, .ref a)] := hl
  refine lv_aload_n hx hb dX7_init_0 rfl (lv_at hl 0 rfl) ?_
  refine objI cx m_630 m_54 m_55 hl.1 dX7_init_1 (by decide) (Nat.le_of_ble_eq_true rfl) ?_
  refine lv_aload_n hx hb dX7_init_4 rfl (lv_at hl 0 rfl) ?_
  refine lv_sipush (v := 150) hx hb dX7_init_5 (by decide) ?_
  refine narr_i (N := 150) cx wo m_126 rfl (by decide) (by decide) (by decide) dX7_init_8 (fun q1 H wo => ?_)
  have wo : Wo G A s.heap H locs [(a, .inr (7, [.null, .null, .int 0])), (q1, .inl (G.2 0, 150, .inl (fun _ => 0)))] := wo
  refine pthF (k := 0) (ty := .array .int) cx wo rfl (by decide) in_model tyX7 tyX7_ok nmX7 rfl rfl m_631 rfl (by decide +kernel) rfl rfl (Nat.le_of_ble_eq_true rfl) dX7_init_10 (fun H locs wo => ?_)
  have wo : Wo G A s.heap H locs [(a, .inr (7, [.ref q1, .null, .int 0])), (q1, .inl (G.2 0, 150, .inl (fun _ => 0)))] := wo
  refine lv_aload_n hx hb dX7_init_13 rfl (lv_at hl 0 rfl) ?_
  refine lv_sipush (v := 1200) hx hb dX7_init_14 (by decide) ?_
  refine narr_i (N := 1200) cx wo m_126 rfl (by decide) (by decide) (by decide) dX7_init_17 (fun q2 H wo => ?_)
  have wo : Wo G A s.heap H locs [(a, .inr (7, [.ref q1, .null, .int 0])), (q1, .inl (G.2 0, 150, .inl (fun _ => 0))), (q2, .inl (G.2 0, 1200, .inl (fun _ => 0)))] := wo
  refine pthF (k := 1) (ty := .array .int) cx wo rfl (by decide) in_model tyX7 tyX7_ok nmX7 rfl rfl m_632 rfl (by decide +kernel) rfl rfl (Nat.le_of_ble_eq_true rfl) dX7_init_19 (fun H locs wo => ?_)
  have wo : Wo G A s.heap H locs [(a, .inr (7, [.ref q1, .ref q2, .int 0])), (q1, .inl (G.2 0, 150, .inl (fun _ => 0))), (q2, .inl (G.2 0, 1200, .inl (fun _ => 0)))] := wo
  obtain ⟨am, ham0, ham1, ham2⟩ : ∃ am : Nat → Nat, am 0 = a ∧ am 1 = q1 ∧ am 2 = q2 := ⟨fun j => ([a, q1, q2] : List Nat).getD j 0, rfl, rfl, rfl⟩
  subst ham0; subst ham1; subst ham2
  have wo : Wo G A s.heap H locs (mw G am (fun _ => 0) (fun _ => 0) 0) := wo
  refine lv_iconst (v := 0) hx hb dX7_init_22 (by decide) ?_
  refine lv_istore_n (lv' := [(1, .int 0), (0, .ref (am 0))]) hx hb dX7_init_23 rfl hl (by decide) rfl (fun ls hl => ?_)
  refine lv_iload_n hx hb dX7_init_24 rfl (lv_at hl 0 rfl) ?_
  refine lv_iconst (v := 4) hx hb dX7_init_25 (by decide) ?_
  refine lv_icmp_ge (tgt := 84) hx hb dX7_init_26 (by decide) (fun h => absurd h (by decide)) (fun _ => ?_)
  refine lv_aload_n hx hb dX7_init_29 rfl (lv_at hl 1 rfl) ?_
  refine mg_st cx wo m_631 dX7_init_30 ?_
  refine lv_bipush (v := 88) hx hb dX7_init_33 (by decide) ?_
  refine lv_iload_n hx hb dX7_init_35 rfl (lv_at hl 0 rfl) ?_
  refine lv_iadd hx hb dX7_init_36 ?_
  refine tope (y := 88) (by decide) ?_
  refine lv_iload_n hx hb dX7_init_37 rfl (lv_at hl 0 rfl) ?_
  refine lv_if_ne (tgt := 45) hx hb dX7_init_38 (by decide) (fun h => absurd (by decide) h) (fun _ => ?_)
  refine lv_iconst (v := 1) hx hb dX7_init_41 (by decide) ?_
  refine lv_goto (tgt := 67) hx hb dX7_init_42 (by decide) ?_
  refine ms_st (n := 88) cx wo rfl (by omega) dX7_init_67 (fun H locs gz hgz wo => ?_)
  subst hgz
  refine lv_aload_n hx hb dX7_init_68 rfl (lv_at hl 1 rfl) ?_
  refine mg_st cx wo m_631 dX7_init_69 ?_
  refine lv_bipush (v := 92) hx hb dX7_init_72 (by decide) ?_
  refine lv_iload_n hx hb dX7_init_74 rfl (lv_at hl 0 rfl) ?_
  refine lv_iadd hx hb dX7_init_75 ?_
  refine tope (y := 92) (by decide) ?_
  refine lv_iconst (v := (-1)) hx hb dX7_init_76 (by decide) ?_
  refine ms_st (n := 92) cx wo rfl (by omega) dX7_init_77 (fun H locs gz hgz wo => ?_)
  subst hgz
  refine lv_iinc (v := 1) (lv' := [(1, .int 1), (0, .ref (am 0))]) hx hb dX7_init_78 hl (k := 0) rfl (by decide) (by decide) rfl (fun ls hl => ?_)
  refine lv_goto (tgt := 24) hx hb dX7_init_81 (by decide) ?_
  refine lv_iload_n hx hb dX7_init_24 rfl (lv_at hl 0 rfl) ?_
  refine lv_iconst (v := 4) hx hb dX7_init_25 (by decide) ?_
  refine lv_icmp_ge (tgt := 84) hx hb dX7_init_26 (by decide) (fun h => absurd h (by decide)) (fun _ => ?_)
  refine lv_aload_n hx hb dX7_init_29 rfl (lv_at hl 1 rfl) ?_
  refine mg_st cx wo m_631 dX7_init_30 ?_
  refine lv_bipush (v := 88) hx hb dX7_init_33 (by decide) ?_
  refine lv_iload_n hx hb dX7_init_35 rfl (lv_at hl 0 rfl) ?_
  refine lv_iadd hx hb dX7_init_36 ?_
  refine tope (y := 89) (by decide) ?_
  refine lv_iload_n hx hb dX7_init_37 rfl (lv_at hl 0 rfl) ?_
  refine lv_if_ne (tgt := 45) hx hb dX7_init_38 (by decide) (fun _ => ?_) (fun h => absurd h (by decide))
  refine lv_iload_n hx hb dX7_init_45 rfl (lv_at hl 0 rfl) ?_
  refine lv_iconst (v := 1) hx hb dX7_init_46 (by decide) ?_
  refine lv_icmp_ne (tgt := 55) hx hb dX7_init_47 (by decide) (fun h => absurd (by decide) h) (fun _ => ?_)
  refine lv_bipush (v := 6) hx hb dX7_init_50 (by decide) ?_
  refine lv_goto (tgt := 67) hx hb dX7_init_52 (by decide) ?_
  refine ms_st (n := 89) cx wo rfl (by omega) dX7_init_67 (fun H locs gz hgz wo => ?_)
  subst hgz
  refine lv_aload_n hx hb dX7_init_68 rfl (lv_at hl 1 rfl) ?_
  refine mg_st cx wo m_631 dX7_init_69 ?_
  refine lv_bipush (v := 92) hx hb dX7_init_72 (by decide) ?_
  refine lv_iload_n hx hb dX7_init_74 rfl (lv_at hl 0 rfl) ?_
  refine lv_iadd hx hb dX7_init_75 ?_
  refine tope (y := 93) (by decide) ?_
  refine lv_iconst (v := (-1)) hx hb dX7_init_76 (by decide) ?_
  refine ms_st (n := 93) cx wo rfl (by omega) dX7_init_77 (fun H locs gz hgz wo => ?_)
  subst hgz
  refine lv_iinc (v := 2) (lv' := [(1, .int 2), (0, .ref (am 0))]) hx hb dX7_init_78 hl (k := 0) rfl (by decide) (by decide) rfl (fun ls hl => ?_)
  refine lv_goto (tgt := 24) hx hb dX7_init_81 (by decide) ?_
  refine lv_iload_n hx hb dX7_init_24 rfl (lv_at hl 0 rfl) ?_
  refine lv_iconst (v := 4) hx hb dX7_init_25 (by decide) ?_
  refine lv_icmp_ge (tgt := 84) hx hb dX7_init_26 (by decide) (fun h => absurd h (by decide)) (fun _ => ?_)
  refine lv_aload_n hx hb dX7_init_29 rfl (lv_at hl 1 rfl) ?_
  refine mg_st cx wo m_631 dX7_init_30 ?_
  refine lv_bipush (v := 88) hx hb dX7_init_33 (by decide) ?_
  refine lv_iload_n hx hb dX7_init_35 rfl (lv_at hl 0 rfl) ?_
  refine lv_iadd hx hb dX7_init_36 ?_
  refine tope (y := 90) (by decide) ?_
  refine lv_iload_n hx hb dX7_init_37 rfl (lv_at hl 0 rfl) ?_
  refine lv_if_ne (tgt := 45) hx hb dX7_init_38 (by decide) (fun _ => ?_) (fun h => absurd h (by decide))
  refine lv_iload_n hx hb dX7_init_45 rfl (lv_at hl 0 rfl) ?_
  refine lv_iconst (v := 1) hx hb dX7_init_46 (by decide) ?_
  refine lv_icmp_ne (tgt := 55) hx hb dX7_init_47 (by decide) (fun _ => ?_) (fun h => absurd h (by decide))
  refine lv_iload_n hx hb dX7_init_55 rfl (lv_at hl 0 rfl) ?_
  refine lv_iconst (v := 2) hx hb dX7_init_56 (by decide) ?_
  refine lv_icmp_ne (tgt := 65) hx hb dX7_init_57 (by decide) (fun h => absurd (by decide) h) (fun _ => ?_)
  refine lv_bipush (v := 10) hx hb dX7_init_60 (by decide) ?_
  refine lv_goto (tgt := 67) hx hb dX7_init_62 (by decide) ?_
  refine ms_st (n := 90) cx wo rfl (by omega) dX7_init_67 (fun H locs gz hgz wo => ?_)
  subst hgz
  refine lv_aload_n hx hb dX7_init_68 rfl (lv_at hl 1 rfl) ?_
  refine mg_st cx wo m_631 dX7_init_69 ?_
  refine lv_bipush (v := 92) hx hb dX7_init_72 (by decide) ?_
  refine lv_iload_n hx hb dX7_init_74 rfl (lv_at hl 0 rfl) ?_
  refine lv_iadd hx hb dX7_init_75 ?_
  refine tope (y := 94) (by decide) ?_
  refine lv_iconst (v := (-1)) hx hb dX7_init_76 (by decide) ?_
  refine ms_st (n := 94) cx wo rfl (by omega) dX7_init_77 (fun H locs gz hgz wo => ?_)
  subst hgz
  refine lv_iinc (v := 3) (lv' := [(1, .int 3), (0, .ref (am 0))]) hx hb dX7_init_78 hl (k := 0) rfl (by decide) (by decide) rfl (fun ls hl => ?_)
  refine lv_goto (tgt := 24) hx hb dX7_init_81 (by decide) ?_
  refine lv_iload_n hx hb dX7_init_24 rfl (lv_at hl 0 rfl) ?_
  refine lv_iconst (v := 4) hx hb dX7_init_25 (by decide) ?_
  refine lv_icmp_ge (tgt := 84) hx hb dX7_init_26 (by decide) (fun h => absurd h (by decide)) (fun _ => ?_)
  refine lv_aload_n hx hb dX7_init_29 rfl (lv_at hl 1 rfl) ?_
  refine mg_st cx wo m_631 dX7_init_30 ?_
  refine lv_bipush (v := 88) hx hb dX7_init_33 (by decide) ?_
  refine lv_iload_n hx hb dX7_init_35 rfl (lv_at hl 0 rfl) ?_
  refine lv_iadd hx hb dX7_init_36 ?_
  refine tope (y := 91) (by decide) ?_
  refine lv_iload_n hx hb dX7_init_37 rfl (lv_at hl 0 rfl) ?_
  refine lv_if_ne (tgt := 45) hx hb dX7_init_38 (by decide) (fun _ => ?_) (fun h => absurd h (by decide))
  refine lv_iload_n hx hb dX7_init_45 rfl (lv_at hl 0 rfl) ?_
  refine lv_iconst (v := 1) hx hb dX7_init_46 (by decide) ?_
  refine lv_icmp_ne (tgt := 55) hx hb dX7_init_47 (by decide) (fun _ => ?_) (fun h => absurd h (by decide))
  refine lv_iload_n hx hb dX7_init_55 rfl (lv_at hl 0 rfl) ?_
  refine lv_iconst (v := 2) hx hb dX7_init_56 (by decide) ?_
  refine lv_icmp_ne (tgt := 65) hx hb dX7_init_57 (by decide) (fun _ => ?_) (fun h => absurd h (by decide))
  refine lv_bipush (v := 14) hx hb dX7_init_65 (by decide) ?_
  refine ms_st (n := 91) cx wo rfl (by omega) dX7_init_67 (fun H locs gz hgz wo => ?_)
  subst hgz
  refine lv_aload_n hx hb dX7_init_68 rfl (lv_at hl 1 rfl) ?_
  refine mg_st cx wo m_631 dX7_init_69 ?_
  refine lv_bipush (v := 92) hx hb dX7_init_72 (by decide) ?_
  refine lv_iload_n hx hb dX7_init_74 rfl (lv_at hl 0 rfl) ?_
  refine lv_iadd hx hb dX7_init_75 ?_
  refine tope (y := 95) (by decide) ?_
  refine lv_iconst (v := (-1)) hx hb dX7_init_76 (by decide) ?_
  refine ms_st (n := 95) cx wo rfl (by omega) dX7_init_77 (fun H locs gz hgz wo => ?_)
  subst hgz
  refine lv_iinc (v := 4) (lv' := [(1, .int 4), (0, .ref (am 0))]) hx hb dX7_init_78 hl (k := 0) rfl (by decide) (by decide) rfl (fun ls hl => ?_)
  refine lv_goto (tgt := 24) hx hb dX7_init_81 (by decide) ?_
  refine lv_iload_n hx hb dX7_init_24 rfl (lv_at hl 0 rfl) ?_
  refine lv_iconst (v := 4) hx hb dX7_init_25 (by decide) ?_
  refine lv_icmp_ge (tgt := 84) hx hb dX7_init_26 (by decide) (fun _ => ?_) (fun h => absurd (show ¬ _ from h) (by decide))
  refine lv_iconst (v := 0) hx hb dX7_init_84 (by decide) ?_
  refine lv_istore_n (lv' := [(1, .int 0), (0, .ref (am 0))]) hx hb dX7_init_85 rfl hl (by decide) rfl (fun ls hl => ?_)
  refine lv_iload_n hx hb dX7_init_86 rfl (lv_at hl 0 rfl) ?_
  refine lv_iconst (v := 3) hx hb dX7_init_87 (by decide) ?_
  refine lv_icmp_ge (tgt := 109) hx hb dX7_init_88 (by decide) (fun h => absurd h (by decide)) (fun _ => ?_)
  refine lv_aload_n hx hb dX7_init_91 rfl (lv_at hl 1 rfl) ?_
  refine mg_st cx wo m_631 dX7_init_92 ?_
  refine lv_bipush (v := 76) hx hb dX7_init_95 (by decide) ?_
  refine lv_iload_n hx hb dX7_init_97 rfl (lv_at hl 0 rfl) ?_
  refine lv_iadd hx hb dX7_init_98 ?_
  refine tope (y := 76) (by decide) ?_
  refine lv_sipush (v := 1150) hx hb dX7_init_99 (by decide) ?_
  refine ms_st (n := 76) cx wo rfl (by omega) dX7_init_102 (fun H locs gz hgz wo => ?_)
  subst hgz
  refine lv_iinc (v := 1) (lv' := [(1, .int 1), (0, .ref (am 0))]) hx hb dX7_init_103 hl (k := 0) rfl (by decide) (by decide) rfl (fun ls hl => ?_)
  refine lv_goto (tgt := 86) hx hb dX7_init_106 (by decide) ?_
  refine lv_iload_n hx hb dX7_init_86 rfl (lv_at hl 0 rfl) ?_
  refine lv_iconst (v := 3) hx hb dX7_init_87 (by decide) ?_
  refine lv_icmp_ge (tgt := 109) hx hb dX7_init_88 (by decide) (fun h => absurd h (by decide)) (fun _ => ?_)
  refine lv_aload_n hx hb dX7_init_91 rfl (lv_at hl 1 rfl) ?_
  refine mg_st cx wo m_631 dX7_init_92 ?_
  refine lv_bipush (v := 76) hx hb dX7_init_95 (by decide) ?_
  refine lv_iload_n hx hb dX7_init_97 rfl (lv_at hl 0 rfl) ?_
  refine lv_iadd hx hb dX7_init_98 ?_
  refine tope (y := 77) (by decide) ?_
  refine lv_sipush (v := 1150) hx hb dX7_init_99 (by decide) ?_
  refine ms_st (n := 77) cx wo rfl (by omega) dX7_init_102 (fun H locs gz hgz wo => ?_)
  subst hgz
  refine lv_iinc (v := 2) (lv' := [(1, .int 2), (0, .ref (am 0))]) hx hb dX7_init_103 hl (k := 0) rfl (by decide) (by decide) rfl (fun ls hl => ?_)
  refine lv_goto (tgt := 86) hx hb dX7_init_106 (by decide) ?_
  refine lv_iload_n hx hb dX7_init_86 rfl (lv_at hl 0 rfl) ?_
  refine lv_iconst (v := 3) hx hb dX7_init_87 (by decide) ?_
  refine lv_icmp_ge (tgt := 109) hx hb dX7_init_88 (by decide) (fun h => absurd h (by decide)) (fun _ => ?_)
  refine lv_aload_n hx hb dX7_init_91 rfl (lv_at hl 1 rfl) ?_
  refine mg_st cx wo m_631 dX7_init_92 ?_
  refine lv_bipush (v := 76) hx hb dX7_init_95 (by decide) ?_
  refine lv_iload_n hx hb dX7_init_97 rfl (lv_at hl 0 rfl) ?_
  refine lv_iadd hx hb dX7_init_98 ?_
  refine tope (y := 78) (by decide) ?_
  refine lv_sipush (v := 1150) hx hb dX7_init_99 (by decide) ?_
  refine ms_st (n := 78) cx wo rfl (by omega) dX7_init_102 (fun H locs gz hgz wo => ?_)
  subst hgz
  refine lv_iinc (v := 3) (lv' := [(1, .int 3), (0, .ref (am 0))]) hx hb dX7_init_103 hl (k := 0) rfl (by decide) (by decide) rfl (fun ls hl => ?_)
  refine lv_goto (tgt := 86) hx hb dX7_init_106 (by decide) ?_
  refine lv_iload_n hx hb dX7_init_86 rfl (lv_at hl 0 rfl) ?_
  refine lv_iconst (v := 3) hx hb dX7_init_87 (by decide) ?_
  refine lv_icmp_ge (tgt := 109) hx hb dX7_init_88 (by decide) (fun _ => ?_) (fun h => absurd (show ¬ _ from h) (by decide))
  refine lv_aload_n hx hb dX7_init_109 rfl (lv_at hl 1 rfl) ?_
  refine mg_st cx wo m_631 dX7_init_110 ?_
  refine lv_bipush (v := 100) hx hb dX7_init_113 (by decide) ?_
  refine lv_iconst (v := 3) hx hb dX7_init_115 (by decide) ?_
  refine ms_st (n := 100) cx wo rfl (by omega) dX7_init_116 (fun H locs gz hgz wo => ?_)
  subst hgz
  refine lv_aload_n hx hb dX7_init_117 rfl (lv_at hl 1 rfl) ?_
  refine mg_st cx wo m_631 dX7_init_118 ?_
  refine lv_bipush (v := 101) hx hb dX7_init_121 (by decide) ?_
  refine lv_bipush (v := 11) hx hb dX7_init_123 (by decide) ?_
  refine ms_st (n := 101) cx wo rfl (by omega) dX7_init_125 (fun H locs gz hgz wo => ?_)
  subst hgz
  refine lv_aload_n hx hb dX7_init_126 rfl (lv_at hl 1 rfl) ?_
  refine mg_st cx wo m_631 dX7_init_127 ?_
  refine lv_bipush (v := 102) hx hb dX7_init_130 (by decide) ?_
  refine lv_iconst (v := (-1)) hx hb dX7_init_132 (by decide) ?_
  refine ms_st (n := 102) cx wo rfl (by omega) dX7_init_133 (fun H locs gz hgz wo => ?_)
  subst hgz
  refine lv_aload_n hx hb dX7_init_134 rfl (lv_at hl 1 rfl) ?_
  refine mg_st cx wo m_631 dX7_init_135 ?_
  refine lv_bipush (v := 103) hx hb dX7_init_138 (by decide) ?_
  refine lv_iconst (v := (-1)) hx hb dX7_init_140 (by decide) ?_
  refine ms_st (n := 103) cx wo rfl (by omega) dX7_init_141 (fun H locs gz hgz wo => ?_)
  subst hgz
  refine lv_aload_n hx hb dX7_init_142 rfl (lv_at hl 1 rfl) ?_
  refine mg_st cx wo m_631 dX7_init_143 ?_
  refine lv_sipush (v := 148) hx hb dX7_init_146 (by decide) ?_
  refine lv_bipush (v := 12) hx hb dX7_init_149 (by decide) ?_
  refine ms_st (n := 148) cx wo rfl (by omega) dX7_init_151 (fun H locs gz hgz wo => ?_)
  subst hgz
  exact r2_v cx hQ wo dX7_init_152 ⟨rfl, am, rfl, rfl⟩
theorem at_end {x y : Nat × va_E} {B : va_W} (X : va_W) {k : Nat} {z : Nat × va_E} (h : B[k]? = some z) : (x :: y :: (X ++ B))[X.length + k + 2]? = some z := by
  show (X ++ B)[X.length + k]? = some z
  rw [List.getElem?_append_right (by omega), Nat.add_sub_cancel_left, h]
abbrev rm_X6_init : Room := { frames := 4, cells := 316, slots := 1646, locals := 82 }
set_option maxHeartbeats 4000000 in
set_option maxRecDepth 100000 in
theorem c_X6_init (l : Launch) (G : GG) (h : Nat) : CtS l G yX6_init cX6_init 2 (none : Option Jvm.ClassFile.FieldType) rm_X6_init [.ref h] [(h, .inr (6, [.null, .null, .int 0]))] (fun rv W1 => rv = none ∧ ∃ (ak : Nat) (ad : Nat → Nat) (ka : Nat → Nat → Nat), W1 = tfr G h ak (ad 12) 0 (fun i => some (ka i 12)) (kw G ka (fun _ => g0)) (aw G ad g0)) := by
  refine CtS.mk2 (by decide) (Nat.le_of_ble_eq_true rfl) ?_
  intro p e s m args below meth c A H locs ls Q cx hSF wo hl hQ
  obtain ⟨hx, hb, hml, hr, hlo, hown, hts, hnm, kn, hA⟩ := id cx
  have hl : lv_has ls 2 [(0, .ref h)] := hl
  refine lv_aload_n hx hb dX6_init_0 rfl (lv_at hl 0 rfl) ?_
  refine objI cx m_53 m_54 m_55 hl.1 dX6_init_1 (by decide) (Nat.le_of_ble_eq_true rfl) ?_
  refine lv_aload_n hx hb dX6_init_4 rfl (lv_at hl 0 rfl) ?_
  refine nobj (ci := 0) (fs := [.null, .null, .null, .null, .null, .null, .int 0, .int 0, .int 0]) cx wo in_aisle tyX0 tyX0_ok m_56 m_57 m_40 rfl (fun j hj => by rcases (show j = 0 ∨ j = 1 ∨ j = 2 ∨ j = 3 ∨ j = 4 ∨ j = 5 ∨ j = 6 ∨ j = 7 ∨ j = 8 by omega) with rfl | rfl | rfl | rfl | rfl | rfl | rfl | rfl | rfl <;> rfl) (by decide) (by decide) dX6_init_5 (fun qn H wo => ?_)
  have wo : Wo G A s.heap H locs ([(h, .inr (6, [.null, .null, .int 0]))] ++ [(qn, .inr (0, [.null, .null, .null, .null, .null, .null, .int 0, .int 0, .int 0]))]) := wo
  refine lv_dup hx hb dX6_init_8 rfl ?_
  refine call_IS (As := []) (rest := [.ref qn, .ref h]) (fun X => [(h, .inr (6, [.null, .null, .int 0]))] ++ X) (Fr_r _) cx hSF (c_X0_init l G qn) fx_X0_init m_58 m_59 rfl ⟨by decide, by decide⟩ wo rfl hl.1 rfl (Nat.le_of_ble_eq_true rfl) dX6_init_9 ⟨by decide, by decide⟩ (fun v W1 H locs hp wo2 => ?_)
  obtain ⟨rfl, ad, rfl, hpm⟩ := hp
  refine nrm_v ?_
  have wo : Wo G A s.heap H locs ((h, .inr (6, [.null, .null, .int 0])) :: aw G ad g0) := Wo_perm (hpm.append_left [(h, .inr (6, [.null, .null, .int 0]))]) wo2
  refine pthF (k := 0) (ty := .object "HotAisle$Aisle") cx wo rfl (by decide) in_hot tyX6 tyX6_ok nmX6 rfl rfl m_282 rfl (by decide +kernel) rfl rfl (Nat.le_of_ble_eq_true rfl) dX6_init_12 (fun H locs wo => ?_)
  have wo : Wo G A s.heap H locs ((h, .inr (6, [.ref (ad 12), .null, .int 0])) :: aw G ad g0) := wo
  refine lv_aload_n hx hb dX6_init_15 rfl (lv_at hl 0 rfl) ?_
  refine lv_bipush (v := 8) hx hb dX6_init_16 (by decide) ?_
  refine narr_q (N := 8) (t0 := 3) cx wo m_56 kn.2.2.2.2.2.2 rfl rfl (by decide) (by decide) (by decide) dX6_init_18 (fun ak H wo => ?_)
  have wo : Wo G A s.heap H locs ((h, .inr (6, [.ref (ad 12), .null, .int 0])) :: (ak, .inl (G.2 3, 8, .inr (.inr (.inr (.inr (fun _ => none)))))) :: aw G ad g0) := Wo_perm (List.Perm.cons _ (List.perm_append_comm (l₂ := ([(ak, .inl (G.2 3, 8, .inr (.inr (.inr (.inr (fun _ => none))))))] : va_W)))) wo
  refine pthF (k := 1) (ty := .array (.object "HotAisle$Aisle")) cx wo rfl (by decide) in_hot tyX6 tyX6_ok nmX6 rfl rfl m_283 rfl (by decide +kernel) rfl rfl (Nat.le_of_ble_eq_true rfl) dX6_init_21 (fun H locs wo => ?_)
  have wo : Wo G A s.heap H locs ((h, .inr (6, [.ref (ad 12), .ref ak, .int 0])) :: (ak, .inl (G.2 3, 8, .inr (.inr (.inr (.inr (fun _ => none)))))) :: (aw G ad g0)) := wo
  refine lv_iconst (v := 0) hx hb dX6_init_24 (by decide) ?_
  refine lv_istore_n (lv' := [(1, .int 0), (0, .ref h)]) hx hb dX6_init_25 rfl hl (by decide) rfl (fun ls hl => ?_)
  refine lv_iload_n hx hb dX6_init_26 rfl (lv_at hl 0 rfl) ?_
  refine lv_aload_n hx hb dX6_init_27 rfl (lv_at hl 1 rfl) ?_
  refine gf (fun X => X) Fr_id cx wo (j := 0) rfl rfl (k := 1) (by decide) in_hot rfl m_283 rfl dX6_init_28 ?_
  refine alen (v := 8) (fun X => X) Fr_id cx wo (j := 1) rfl (t0 := 3) rfl rfl dX6_init_31 ?_
  refine lv_icmp_ge (tgt := 54) hx hb dX6_init_32 (by decide) (fun h => absurd h (by decide)) (fun _ => ?_)
  refine lv_aload_n hx hb dX6_init_35 rfl (lv_at hl 1 rfl) ?_
  refine gf (fun X => X) Fr_id cx wo (j := 0) rfl rfl (k := 1) (by decide) in_hot rfl m_283 rfl dX6_init_36 ?_
  refine lv_iload_n hx hb dX6_init_39 rfl (lv_at hl 0 rfl) ?_
  refine nobj (ci := 0) (fs := [.null, .null, .null, .null, .null, .null, .int 0, .int 0, .int 0]) cx wo in_aisle tyX0 tyX0_ok m_56 m_57 m_40 rfl (fun j hj => by rcases (show j = 0 ∨ j = 1 ∨ j = 2 ∨ j = 3 ∨ j = 4 ∨ j = 5 ∨ j = 6 ∨ j = 7 ∨ j = 8 by omega) with rfl | rfl | rfl | rfl | rfl | rfl | rfl | rfl | rfl <;> rfl) (by decide) (by decide) dX6_init_40 (fun q0 H wo => ?_)
  have wo : Wo G A s.heap H locs (((h, .inr (6, [.ref (ad 12), .ref ak, .int 0])) :: (ak, .inl (G.2 3, 8, .inr (.inr (.inr (.inr (fun _ => none)))))) :: (aw G ad g0)) ++ [(q0, .inr (0, [.null, .null, .null, .null, .null, .null, .int 0, .int 0, .int 0]))]) := wo
  refine lv_dup hx hb dX6_init_43 rfl ?_
  refine call_IS (As := []) (rest := [.ref q0, .int 0, .ref ak]) (fun X => ((h, .inr (6, [.ref (ad 12), .ref ak, .int 0])) :: (ak, .inl (G.2 3, 8, .inr (.inr (.inr (.inr (fun _ => none)))))) :: (aw G ad g0)) ++ X) (Fr_r _) cx hSF (c_X0_init l G q0) fx_X0_init m_58 m_59 rfl ⟨by decide, by decide⟩ wo rfl hl.1 rfl (Nat.le_of_ble_eq_true rfl) dX6_init_44 ⟨by decide, by decide⟩ (fun v W1 H locs hp wo2 => ?_)
  obtain ⟨rfl, a0, rfl, hpm0⟩ := hp
  refine nrm_v ?_
  have wo : Wo G A s.heap H locs ((h, .inr (6, [.ref (ad 12), .ref ak, .int 0])) :: (ak, .inl (G.2 3, 8, .inr (.inr (.inr (.inr (fun _ => none)))))) :: ((aw G ad g0) ++ aw G a0 g0)) := Wo_perm (hpm0.append_left _) wo2
  refine ast_q (j := 1) (n := 0) (qk := (aw G ad g0).length + 12 + 2) (t0 := 3) (r := ("HotAisle$Aisle", TX0, 9)) cx wo rfl rfl (at_end (aw G ad g0) (at_aisle G a0 g0)) rfl rfl (by decide) (by decide) dX6_init_47 (fun H locs wo => ?_)
  have wo : Wo G A s.heap H locs ((h, .inr (6, [.ref (ad 12), .ref ak, .int 0])) :: (ak, .inl (G.2 3, 8, .inr (.inr (.inr (.inr (va_up (fun _ => none) 0 (some (a0 12)))))))) :: ((aw G ad g0) ++ aw G a0 g0)) := wo
  refine lv_iinc (v := 1) (lv' := [(1, .int 1), (0, .ref h)]) hx hb dX6_init_48 hl (k := 0) rfl (by decide) (by decide) rfl (fun ls hl => ?_)
  refine lv_goto (tgt := 26) hx hb dX6_init_51 (by decide) ?_
  refine lv_iload_n hx hb dX6_init_26 rfl (lv_at hl 0 rfl) ?_
  refine lv_aload_n hx hb dX6_init_27 rfl (lv_at hl 1 rfl) ?_
  refine gf (fun X => X) Fr_id cx wo (j := 0) rfl rfl (k := 1) (by decide) in_hot rfl m_283 rfl dX6_init_28 ?_
  refine alen (v := 8) (fun X => X) Fr_id cx wo (j := 1) rfl (t0 := 3) rfl rfl dX6_init_31 ?_
  refine lv_icmp_ge (tgt := 54) hx hb dX6_init_32 (by decide) (fun h => absurd h (by decide)) (fun _ => ?_)
  refine lv_aload_n hx hb dX6_init_35 rfl (lv_at hl 1 rfl) ?_
  refine gf (fun X => X) Fr_id cx wo (j := 0) rfl rfl (k := 1) (by decide) in_hot rfl m_283 rfl dX6_init_36 ?_
  refine lv_iload_n hx hb dX6_init_39 rfl (lv_at hl 0 rfl) ?_
  refine nobj (ci := 0) (fs := [.null, .null, .null, .null, .null, .null, .int 0, .int 0, .int 0]) cx wo in_aisle tyX0 tyX0_ok m_56 m_57 m_40 rfl (fun j hj => by rcases (show j = 0 ∨ j = 1 ∨ j = 2 ∨ j = 3 ∨ j = 4 ∨ j = 5 ∨ j = 6 ∨ j = 7 ∨ j = 8 by omega) with rfl | rfl | rfl | rfl | rfl | rfl | rfl | rfl | rfl <;> rfl) (by decide) (by decide) dX6_init_40 (fun q1 H wo => ?_)
  have wo : Wo G A s.heap H locs (((h, .inr (6, [.ref (ad 12), .ref ak, .int 0])) :: (ak, .inl (G.2 3, 8, .inr (.inr (.inr (.inr (va_up (fun _ => none) 0 (some (a0 12)))))))) :: ((aw G ad g0) ++ aw G a0 g0)) ++ [(q1, .inr (0, [.null, .null, .null, .null, .null, .null, .int 0, .int 0, .int 0]))]) := wo
  refine lv_dup hx hb dX6_init_43 rfl ?_
  refine call_IS (As := []) (rest := [.ref q1, .int 1, .ref ak]) (fun X => ((h, .inr (6, [.ref (ad 12), .ref ak, .int 0])) :: (ak, .inl (G.2 3, 8, .inr (.inr (.inr (.inr (va_up (fun _ => none) 0 (some (a0 12)))))))) :: ((aw G ad g0) ++ aw G a0 g0)) ++ X) (Fr_r _) cx hSF (c_X0_init l G q1) fx_X0_init m_58 m_59 rfl ⟨by decide, by decide⟩ wo rfl hl.1 rfl (Nat.le_of_ble_eq_true rfl) dX6_init_44 ⟨by decide, by decide⟩ (fun v W1 H locs hp wo2 => ?_)
  obtain ⟨rfl, a1, rfl, hpm1⟩ := hp
  refine nrm_v ?_
  have wo : Wo G A s.heap H locs ((h, .inr (6, [.ref (ad 12), .ref ak, .int 0])) :: (ak, .inl (G.2 3, 8, .inr (.inr (.inr (.inr (va_up (fun _ => none) 0 (some (a0 12)))))))) :: (((aw G ad g0) ++ aw G a0 g0) ++ aw G a1 g0)) := Wo_perm (hpm1.append_left _) wo2
  refine ast_q (j := 1) (n := 1) (qk := ((aw G ad g0) ++ aw G a0 g0).length + 12 + 2) (t0 := 3) (r := ("HotAisle$Aisle", TX0, 9)) cx wo rfl rfl (at_end ((aw G ad g0) ++ aw G a0 g0) (at_aisle G a1 g0)) rfl rfl (by decide) (by decide) dX6_init_47 (fun H locs wo => ?_)
  have wo : Wo G A s.heap H locs ((h, .inr (6, [.ref (ad 12), .ref ak, .int 0])) :: (ak, .inl (G.2 3, 8, .inr (.inr (.inr (.inr (va_up (va_up (fun _ => none) 0 (some (a0 12))) 1 (some (a1 12)))))))) :: (((aw G ad g0) ++ aw G a0 g0) ++ aw G a1 g0)) := wo
  refine lv_iinc (v := 2) (lv' := [(1, .int 2), (0, .ref h)]) hx hb dX6_init_48 hl (k := 0) rfl (by decide) (by decide) rfl (fun ls hl => ?_)
  refine lv_goto (tgt := 26) hx hb dX6_init_51 (by decide) ?_
  refine lv_iload_n hx hb dX6_init_26 rfl (lv_at hl 0 rfl) ?_
  refine lv_aload_n hx hb dX6_init_27 rfl (lv_at hl 1 rfl) ?_
  refine gf (fun X => X) Fr_id cx wo (j := 0) rfl rfl (k := 1) (by decide) in_hot rfl m_283 rfl dX6_init_28 ?_
  refine alen (v := 8) (fun X => X) Fr_id cx wo (j := 1) rfl (t0 := 3) rfl rfl dX6_init_31 ?_
  refine lv_icmp_ge (tgt := 54) hx hb dX6_init_32 (by decide) (fun h => absurd h (by decide)) (fun _ => ?_)
  refine lv_aload_n hx hb dX6_init_35 rfl (lv_at hl 1 rfl) ?_
  refine gf (fun X => X) Fr_id cx wo (j := 0) rfl rfl (k := 1) (by decide) in_hot rfl m_283 rfl dX6_init_36 ?_
  refine lv_iload_n hx hb dX6_init_39 rfl (lv_at hl 0 rfl) ?_
  refine nobj (ci := 0) (fs := [.null, .null, .null, .null, .null, .null, .int 0, .int 0, .int 0]) cx wo in_aisle tyX0 tyX0_ok m_56 m_57 m_40 rfl (fun j hj => by rcases (show j = 0 ∨ j = 1 ∨ j = 2 ∨ j = 3 ∨ j = 4 ∨ j = 5 ∨ j = 6 ∨ j = 7 ∨ j = 8 by omega) with rfl | rfl | rfl | rfl | rfl | rfl | rfl | rfl | rfl <;> rfl) (by decide) (by decide) dX6_init_40 (fun q2 H wo => ?_)
  have wo : Wo G A s.heap H locs (((h, .inr (6, [.ref (ad 12), .ref ak, .int 0])) :: (ak, .inl (G.2 3, 8, .inr (.inr (.inr (.inr (va_up (va_up (fun _ => none) 0 (some (a0 12))) 1 (some (a1 12)))))))) :: (((aw G ad g0) ++ aw G a0 g0) ++ aw G a1 g0)) ++ [(q2, .inr (0, [.null, .null, .null, .null, .null, .null, .int 0, .int 0, .int 0]))]) := wo
  refine lv_dup hx hb dX6_init_43 rfl ?_
  refine call_IS (As := []) (rest := [.ref q2, .int 2, .ref ak]) (fun X => ((h, .inr (6, [.ref (ad 12), .ref ak, .int 0])) :: (ak, .inl (G.2 3, 8, .inr (.inr (.inr (.inr (va_up (va_up (fun _ => none) 0 (some (a0 12))) 1 (some (a1 12)))))))) :: (((aw G ad g0) ++ aw G a0 g0) ++ aw G a1 g0)) ++ X) (Fr_r _) cx hSF (c_X0_init l G q2) fx_X0_init m_58 m_59 rfl ⟨by decide, by decide⟩ wo rfl hl.1 rfl (Nat.le_of_ble_eq_true rfl) dX6_init_44 ⟨by decide, by decide⟩ (fun v W1 H locs hp wo2 => ?_)
  obtain ⟨rfl, a2, rfl, hpm2⟩ := hp
  refine nrm_v ?_
  have wo : Wo G A s.heap H locs ((h, .inr (6, [.ref (ad 12), .ref ak, .int 0])) :: (ak, .inl (G.2 3, 8, .inr (.inr (.inr (.inr (va_up (va_up (fun _ => none) 0 (some (a0 12))) 1 (some (a1 12)))))))) :: ((((aw G ad g0) ++ aw G a0 g0) ++ aw G a1 g0) ++ aw G a2 g0)) := Wo_perm (hpm2.append_left _) wo2
  refine ast_q (j := 1) (n := 2) (qk := (((aw G ad g0) ++ aw G a0 g0) ++ aw G a1 g0).length + 12 + 2) (t0 := 3) (r := ("HotAisle$Aisle", TX0, 9)) cx wo rfl rfl (at_end (((aw G ad g0) ++ aw G a0 g0) ++ aw G a1 g0) (at_aisle G a2 g0)) rfl rfl (by decide) (by decide) dX6_init_47 (fun H locs wo => ?_)
  have wo : Wo G A s.heap H locs ((h, .inr (6, [.ref (ad 12), .ref ak, .int 0])) :: (ak, .inl (G.2 3, 8, .inr (.inr (.inr (.inr (va_up (va_up (va_up (fun _ => none) 0 (some (a0 12))) 1 (some (a1 12))) 2 (some (a2 12)))))))) :: ((((aw G ad g0) ++ aw G a0 g0) ++ aw G a1 g0) ++ aw G a2 g0)) := wo
  refine lv_iinc (v := 3) (lv' := [(1, .int 3), (0, .ref h)]) hx hb dX6_init_48 hl (k := 0) rfl (by decide) (by decide) rfl (fun ls hl => ?_)
  refine lv_goto (tgt := 26) hx hb dX6_init_51 (by decide) ?_
  refine lv_iload_n hx hb dX6_init_26 rfl (lv_at hl 0 rfl) ?_
  refine lv_aload_n hx hb dX6_init_27 rfl (lv_at hl 1 rfl) ?_
  refine gf (fun X => X) Fr_id cx wo (j := 0) rfl rfl (k := 1) (by decide) in_hot rfl m_283 rfl dX6_init_28 ?_
  refine alen (v := 8) (fun X => X) Fr_id cx wo (j := 1) rfl (t0 := 3) rfl rfl dX6_init_31 ?_
  refine lv_icmp_ge (tgt := 54) hx hb dX6_init_32 (by decide) (fun h => absurd h (by decide)) (fun _ => ?_)
  refine lv_aload_n hx hb dX6_init_35 rfl (lv_at hl 1 rfl) ?_
  refine gf (fun X => X) Fr_id cx wo (j := 0) rfl rfl (k := 1) (by decide) in_hot rfl m_283 rfl dX6_init_36 ?_
  refine lv_iload_n hx hb dX6_init_39 rfl (lv_at hl 0 rfl) ?_
  refine nobj (ci := 0) (fs := [.null, .null, .null, .null, .null, .null, .int 0, .int 0, .int 0]) cx wo in_aisle tyX0 tyX0_ok m_56 m_57 m_40 rfl (fun j hj => by rcases (show j = 0 ∨ j = 1 ∨ j = 2 ∨ j = 3 ∨ j = 4 ∨ j = 5 ∨ j = 6 ∨ j = 7 ∨ j = 8 by omega) with rfl | rfl | rfl | rfl | rfl | rfl | rfl | rfl | rfl <;> rfl) (by decide) (by decide) dX6_init_40 (fun q3 H wo => ?_)
  have wo : Wo G A s.heap H locs (((h, .inr (6, [.ref (ad 12), .ref ak, .int 0])) :: (ak, .inl (G.2 3, 8, .inr (.inr (.inr (.inr (va_up (va_up (va_up (fun _ => none) 0 (some (a0 12))) 1 (some (a1 12))) 2 (some (a2 12)))))))) :: ((((aw G ad g0) ++ aw G a0 g0) ++ aw G a1 g0) ++ aw G a2 g0)) ++ [(q3, .inr (0, [.null, .null, .null, .null, .null, .null, .int 0, .int 0, .int 0]))]) := wo
  refine lv_dup hx hb dX6_init_43 rfl ?_
  refine call_IS (As := []) (rest := [.ref q3, .int 3, .ref ak]) (fun X => ((h, .inr (6, [.ref (ad 12), .ref ak, .int 0])) :: (ak, .inl (G.2 3, 8, .inr (.inr (.inr (.inr (va_up (va_up (va_up (fun _ => none) 0 (some (a0 12))) 1 (some (a1 12))) 2 (some (a2 12)))))))) :: ((((aw G ad g0) ++ aw G a0 g0) ++ aw G a1 g0) ++ aw G a2 g0)) ++ X) (Fr_r _) cx hSF (c_X0_init l G q3) fx_X0_init m_58 m_59 rfl ⟨by decide, by decide⟩ wo rfl hl.1 rfl (Nat.le_of_ble_eq_true rfl) dX6_init_44 ⟨by decide, by decide⟩ (fun v W1 H locs hp wo2 => ?_)
  obtain ⟨rfl, a3, rfl, hpm3⟩ := hp
  refine nrm_v ?_
  have wo : Wo G A s.heap H locs ((h, .inr (6, [.ref (ad 12), .ref ak, .int 0])) :: (ak, .inl (G.2 3, 8, .inr (.inr (.inr (.inr (va_up (va_up (va_up (fun _ => none) 0 (some (a0 12))) 1 (some (a1 12))) 2 (some (a2 12)))))))) :: (((((aw G ad g0) ++ aw G a0 g0) ++ aw G a1 g0) ++ aw G a2 g0) ++ aw G a3 g0)) := Wo_perm (hpm3.append_left _) wo2
  refine ast_q (j := 1) (n := 3) (qk := ((((aw G ad g0) ++ aw G a0 g0) ++ aw G a1 g0) ++ aw G a2 g0).length + 12 + 2) (t0 := 3) (r := ("HotAisle$Aisle", TX0, 9)) cx wo rfl rfl (at_end ((((aw G ad g0) ++ aw G a0 g0) ++ aw G a1 g0) ++ aw G a2 g0) (at_aisle G a3 g0)) rfl rfl (by decide) (by decide) dX6_init_47 (fun H locs wo => ?_)
  have wo : Wo G A s.heap H locs ((h, .inr (6, [.ref (ad 12), .ref ak, .int 0])) :: (ak, .inl (G.2 3, 8, .inr (.inr (.inr (.inr (va_up (va_up (va_up (va_up (fun _ => none) 0 (some (a0 12))) 1 (some (a1 12))) 2 (some (a2 12))) 3 (some (a3 12)))))))) :: (((((aw G ad g0) ++ aw G a0 g0) ++ aw G a1 g0) ++ aw G a2 g0) ++ aw G a3 g0)) := wo
  refine lv_iinc (v := 4) (lv' := [(1, .int 4), (0, .ref h)]) hx hb dX6_init_48 hl (k := 0) rfl (by decide) (by decide) rfl (fun ls hl => ?_)
  refine lv_goto (tgt := 26) hx hb dX6_init_51 (by decide) ?_
  refine lv_iload_n hx hb dX6_init_26 rfl (lv_at hl 0 rfl) ?_
  refine lv_aload_n hx hb dX6_init_27 rfl (lv_at hl 1 rfl) ?_
  refine gf (fun X => X) Fr_id cx wo (j := 0) rfl rfl (k := 1) (by decide) in_hot rfl m_283 rfl dX6_init_28 ?_
  refine alen (v := 8) (fun X => X) Fr_id cx wo (j := 1) rfl (t0 := 3) rfl rfl dX6_init_31 ?_
  refine lv_icmp_ge (tgt := 54) hx hb dX6_init_32 (by decide) (fun h => absurd h (by decide)) (fun _ => ?_)
  refine lv_aload_n hx hb dX6_init_35 rfl (lv_at hl 1 rfl) ?_
  refine gf (fun X => X) Fr_id cx wo (j := 0) rfl rfl (k := 1) (by decide) in_hot rfl m_283 rfl dX6_init_36 ?_
  refine lv_iload_n hx hb dX6_init_39 rfl (lv_at hl 0 rfl) ?_
  refine nobj (ci := 0) (fs := [.null, .null, .null, .null, .null, .null, .int 0, .int 0, .int 0]) cx wo in_aisle tyX0 tyX0_ok m_56 m_57 m_40 rfl (fun j hj => by rcases (show j = 0 ∨ j = 1 ∨ j = 2 ∨ j = 3 ∨ j = 4 ∨ j = 5 ∨ j = 6 ∨ j = 7 ∨ j = 8 by omega) with rfl | rfl | rfl | rfl | rfl | rfl | rfl | rfl | rfl <;> rfl) (by decide) (by decide) dX6_init_40 (fun q4 H wo => ?_)
  have wo : Wo G A s.heap H locs (((h, .inr (6, [.ref (ad 12), .ref ak, .int 0])) :: (ak, .inl (G.2 3, 8, .inr (.inr (.inr (.inr (va_up (va_up (va_up (va_up (fun _ => none) 0 (some (a0 12))) 1 (some (a1 12))) 2 (some (a2 12))) 3 (some (a3 12)))))))) :: (((((aw G ad g0) ++ aw G a0 g0) ++ aw G a1 g0) ++ aw G a2 g0) ++ aw G a3 g0)) ++ [(q4, .inr (0, [.null, .null, .null, .null, .null, .null, .int 0, .int 0, .int 0]))]) := wo
  refine lv_dup hx hb dX6_init_43 rfl ?_
  refine call_IS (As := []) (rest := [.ref q4, .int 4, .ref ak]) (fun X => ((h, .inr (6, [.ref (ad 12), .ref ak, .int 0])) :: (ak, .inl (G.2 3, 8, .inr (.inr (.inr (.inr (va_up (va_up (va_up (va_up (fun _ => none) 0 (some (a0 12))) 1 (some (a1 12))) 2 (some (a2 12))) 3 (some (a3 12)))))))) :: (((((aw G ad g0) ++ aw G a0 g0) ++ aw G a1 g0) ++ aw G a2 g0) ++ aw G a3 g0)) ++ X) (Fr_r _) cx hSF (c_X0_init l G q4) fx_X0_init m_58 m_59 rfl ⟨by decide, by decide⟩ wo rfl hl.1 rfl (Nat.le_of_ble_eq_true rfl) dX6_init_44 ⟨by decide, by decide⟩ (fun v W1 H locs hp wo2 => ?_)
  obtain ⟨rfl, a4, rfl, hpm4⟩ := hp
  refine nrm_v ?_
  have wo : Wo G A s.heap H locs ((h, .inr (6, [.ref (ad 12), .ref ak, .int 0])) :: (ak, .inl (G.2 3, 8, .inr (.inr (.inr (.inr (va_up (va_up (va_up (va_up (fun _ => none) 0 (some (a0 12))) 1 (some (a1 12))) 2 (some (a2 12))) 3 (some (a3 12)))))))) :: ((((((aw G ad g0) ++ aw G a0 g0) ++ aw G a1 g0) ++ aw G a2 g0) ++ aw G a3 g0) ++ aw G a4 g0)) := Wo_perm (hpm4.append_left _) wo2
  refine ast_q (j := 1) (n := 4) (qk := (((((aw G ad g0) ++ aw G a0 g0) ++ aw G a1 g0) ++ aw G a2 g0) ++ aw G a3 g0).length + 12 + 2) (t0 := 3) (r := ("HotAisle$Aisle", TX0, 9)) cx wo rfl rfl (at_end (((((aw G ad g0) ++ aw G a0 g0) ++ aw G a1 g0) ++ aw G a2 g0) ++ aw G a3 g0) (at_aisle G a4 g0)) rfl rfl (by decide) (by decide) dX6_init_47 (fun H locs wo => ?_)
  have wo : Wo G A s.heap H locs ((h, .inr (6, [.ref (ad 12), .ref ak, .int 0])) :: (ak, .inl (G.2 3, 8, .inr (.inr (.inr (.inr (va_up (va_up (va_up (va_up (va_up (fun _ => none) 0 (some (a0 12))) 1 (some (a1 12))) 2 (some (a2 12))) 3 (some (a3 12))) 4 (some (a4 12)))))))) :: ((((((aw G ad g0) ++ aw G a0 g0) ++ aw G a1 g0) ++ aw G a2 g0) ++ aw G a3 g0) ++ aw G a4 g0)) := wo
  refine lv_iinc (v := 5) (lv' := [(1, .int 5), (0, .ref h)]) hx hb dX6_init_48 hl (k := 0) rfl (by decide) (by decide) rfl (fun ls hl => ?_)
  refine lv_goto (tgt := 26) hx hb dX6_init_51 (by decide) ?_
  refine lv_iload_n hx hb dX6_init_26 rfl (lv_at hl 0 rfl) ?_
  refine lv_aload_n hx hb dX6_init_27 rfl (lv_at hl 1 rfl) ?_
  refine gf (fun X => X) Fr_id cx wo (j := 0) rfl rfl (k := 1) (by decide) in_hot rfl m_283 rfl dX6_init_28 ?_
  refine alen (v := 8) (fun X => X) Fr_id cx wo (j := 1) rfl (t0 := 3) rfl rfl dX6_init_31 ?_
  refine lv_icmp_ge (tgt := 54) hx hb dX6_init_32 (by decide) (fun h => absurd h (by decide)) (fun _ => ?_)
  refine lv_aload_n hx hb dX6_init_35 rfl (lv_at hl 1 rfl) ?_
  refine gf (fun X => X) Fr_id cx wo (j := 0) rfl rfl (k := 1) (by decide) in_hot rfl m_283 rfl dX6_init_36 ?_
  refine lv_iload_n hx hb dX6_init_39 rfl (lv_at hl 0 rfl) ?_
  refine nobj (ci := 0) (fs := [.null, .null, .null, .null, .null, .null, .int 0, .int 0, .int 0]) cx wo in_aisle tyX0 tyX0_ok m_56 m_57 m_40 rfl (fun j hj => by rcases (show j = 0 ∨ j = 1 ∨ j = 2 ∨ j = 3 ∨ j = 4 ∨ j = 5 ∨ j = 6 ∨ j = 7 ∨ j = 8 by omega) with rfl | rfl | rfl | rfl | rfl | rfl | rfl | rfl | rfl <;> rfl) (by decide) (by decide) dX6_init_40 (fun q5 H wo => ?_)
  have wo : Wo G A s.heap H locs (((h, .inr (6, [.ref (ad 12), .ref ak, .int 0])) :: (ak, .inl (G.2 3, 8, .inr (.inr (.inr (.inr (va_up (va_up (va_up (va_up (va_up (fun _ => none) 0 (some (a0 12))) 1 (some (a1 12))) 2 (some (a2 12))) 3 (some (a3 12))) 4 (some (a4 12)))))))) :: ((((((aw G ad g0) ++ aw G a0 g0) ++ aw G a1 g0) ++ aw G a2 g0) ++ aw G a3 g0) ++ aw G a4 g0)) ++ [(q5, .inr (0, [.null, .null, .null, .null, .null, .null, .int 0, .int 0, .int 0]))]) := wo
  refine lv_dup hx hb dX6_init_43 rfl ?_
  refine call_IS (As := []) (rest := [.ref q5, .int 5, .ref ak]) (fun X => ((h, .inr (6, [.ref (ad 12), .ref ak, .int 0])) :: (ak, .inl (G.2 3, 8, .inr (.inr (.inr (.inr (va_up (va_up (va_up (va_up (va_up (fun _ => none) 0 (some (a0 12))) 1 (some (a1 12))) 2 (some (a2 12))) 3 (some (a3 12))) 4 (some (a4 12)))))))) :: ((((((aw G ad g0) ++ aw G a0 g0) ++ aw G a1 g0) ++ aw G a2 g0) ++ aw G a3 g0) ++ aw G a4 g0)) ++ X) (Fr_r _) cx hSF (c_X0_init l G q5) fx_X0_init m_58 m_59 rfl ⟨by decide, by decide⟩ wo rfl hl.1 rfl (Nat.le_of_ble_eq_true rfl) dX6_init_44 ⟨by decide, by decide⟩ (fun v W1 H locs hp wo2 => ?_)
  obtain ⟨rfl, a5, rfl, hpm5⟩ := hp
  refine nrm_v ?_
  have wo : Wo G A s.heap H locs ((h, .inr (6, [.ref (ad 12), .ref ak, .int 0])) :: (ak, .inl (G.2 3, 8, .inr (.inr (.inr (.inr (va_up (va_up (va_up (va_up (va_up (fun _ => none) 0 (some (a0 12))) 1 (some (a1 12))) 2 (some (a2 12))) 3 (some (a3 12))) 4 (some (a4 12)))))))) :: (((((((aw G ad g0) ++ aw G a0 g0) ++ aw G a1 g0) ++ aw G a2 g0) ++ aw G a3 g0) ++ aw G a4 g0) ++ aw G a5 g0)) := Wo_perm (hpm5.append_left _) wo2
  refine ast_q (j := 1) (n := 5) (qk := ((((((aw G ad g0) ++ aw G a0 g0) ++ aw G a1 g0) ++ aw G a2 g0) ++ aw G a3 g0) ++ aw G a4 g0).length + 12 + 2) (t0 := 3) (r := ("HotAisle$Aisle", TX0, 9)) cx wo rfl rfl (at_end ((((((aw G ad g0) ++ aw G a0 g0) ++ aw G a1 g0) ++ aw G a2 g0) ++ aw G a3 g0) ++ aw G a4 g0) (at_aisle G a5 g0)) rfl rfl (by decide) (by decide) dX6_init_47 (fun H locs wo => ?_)
  have wo : Wo G A s.heap H locs ((h, .inr (6, [.ref (ad 12), .ref ak, .int 0])) :: (ak, .inl (G.2 3, 8, .inr (.inr (.inr (.inr (va_up (va_up (va_up (va_up (va_up (va_up (fun _ => none) 0 (some (a0 12))) 1 (some (a1 12))) 2 (some (a2 12))) 3 (some (a3 12))) 4 (some (a4 12))) 5 (some (a5 12)))))))) :: (((((((aw G ad g0) ++ aw G a0 g0) ++ aw G a1 g0) ++ aw G a2 g0) ++ aw G a3 g0) ++ aw G a4 g0) ++ aw G a5 g0)) := wo
  refine lv_iinc (v := 6) (lv' := [(1, .int 6), (0, .ref h)]) hx hb dX6_init_48 hl (k := 0) rfl (by decide) (by decide) rfl (fun ls hl => ?_)
  refine lv_goto (tgt := 26) hx hb dX6_init_51 (by decide) ?_
  refine lv_iload_n hx hb dX6_init_26 rfl (lv_at hl 0 rfl) ?_
  refine lv_aload_n hx hb dX6_init_27 rfl (lv_at hl 1 rfl) ?_
  refine gf (fun X => X) Fr_id cx wo (j := 0) rfl rfl (k := 1) (by decide) in_hot rfl m_283 rfl dX6_init_28 ?_
  refine alen (v := 8) (fun X => X) Fr_id cx wo (j := 1) rfl (t0 := 3) rfl rfl dX6_init_31 ?_
  refine lv_icmp_ge (tgt := 54) hx hb dX6_init_32 (by decide) (fun h => absurd h (by decide)) (fun _ => ?_)
  refine lv_aload_n hx hb dX6_init_35 rfl (lv_at hl 1 rfl) ?_
  refine gf (fun X => X) Fr_id cx wo (j := 0) rfl rfl (k := 1) (by decide) in_hot rfl m_283 rfl dX6_init_36 ?_
  refine lv_iload_n hx hb dX6_init_39 rfl (lv_at hl 0 rfl) ?_
  refine nobj (ci := 0) (fs := [.null, .null, .null, .null, .null, .null, .int 0, .int 0, .int 0]) cx wo in_aisle tyX0 tyX0_ok m_56 m_57 m_40 rfl (fun j hj => by rcases (show j = 0 ∨ j = 1 ∨ j = 2 ∨ j = 3 ∨ j = 4 ∨ j = 5 ∨ j = 6 ∨ j = 7 ∨ j = 8 by omega) with rfl | rfl | rfl | rfl | rfl | rfl | rfl | rfl | rfl <;> rfl) (by decide) (by decide) dX6_init_40 (fun q6 H wo => ?_)
  have wo : Wo G A s.heap H locs (((h, .inr (6, [.ref (ad 12), .ref ak, .int 0])) :: (ak, .inl (G.2 3, 8, .inr (.inr (.inr (.inr (va_up (va_up (va_up (va_up (va_up (va_up (fun _ => none) 0 (some (a0 12))) 1 (some (a1 12))) 2 (some (a2 12))) 3 (some (a3 12))) 4 (some (a4 12))) 5 (some (a5 12)))))))) :: (((((((aw G ad g0) ++ aw G a0 g0) ++ aw G a1 g0) ++ aw G a2 g0) ++ aw G a3 g0) ++ aw G a4 g0) ++ aw G a5 g0)) ++ [(q6, .inr (0, [.null, .null, .null, .null, .null, .null, .int 0, .int 0, .int 0]))]) := wo
  refine lv_dup hx hb dX6_init_43 rfl ?_
  refine call_IS (As := []) (rest := [.ref q6, .int 6, .ref ak]) (fun X => ((h, .inr (6, [.ref (ad 12), .ref ak, .int 0])) :: (ak, .inl (G.2 3, 8, .inr (.inr (.inr (.inr (va_up (va_up (va_up (va_up (va_up (va_up (fun _ => none) 0 (some (a0 12))) 1 (some (a1 12))) 2 (some (a2 12))) 3 (some (a3 12))) 4 (some (a4 12))) 5 (some (a5 12)))))))) :: (((((((aw G ad g0) ++ aw G a0 g0) ++ aw G a1 g0) ++ aw G a2 g0) ++ aw G a3 g0) ++ aw G a4 g0) ++ aw G a5 g0)) ++ X) (Fr_r _) cx hSF (c_X0_init l G q6) fx_X0_init m_58 m_59 rfl ⟨by decide, by decide⟩ wo rfl hl.1 rfl (Nat.le_of_ble_eq_true rfl) dX6_init_44 ⟨by decide, by decide⟩ (fun v W1 H locs hp wo2 => ?_)
  obtain ⟨rfl, a6, rfl, hpm6⟩ := hp
  refine nrm_v ?_
  have wo : Wo G A s.heap H locs ((h, .inr (6, [.ref (ad 12), .ref ak, .int 0])) :: (ak, .inl (G.2 3, 8, .inr (.inr (.inr (.inr (va_up (va_up (va_up (va_up (va_up (va_up (fun _ => none) 0 (some (a0 12))) 1 (some (a1 12))) 2 (some (a2 12))) 3 (some (a3 12))) 4 (some (a4 12))) 5 (some (a5 12)))))))) :: ((((((((aw G ad g0) ++ aw G a0 g0) ++ aw G a1 g0) ++ aw G a2 g0) ++ aw G a3 g0) ++ aw G a4 g0) ++ aw G a5 g0) ++ aw G a6 g0)) := Wo_perm (hpm6.append_left _) wo2
  refine ast_q (j := 1) (n := 6) (qk := (((((((aw G ad g0) ++ aw G a0 g0) ++ aw G a1 g0) ++ aw G a2 g0) ++ aw G a3 g0) ++ aw G a4 g0) ++ aw G a5 g0).length + 12 + 2) (t0 := 3) (r := ("HotAisle$Aisle", TX0, 9)) cx wo rfl rfl (at_end (((((((aw G ad g0) ++ aw G a0 g0) ++ aw G a1 g0) ++ aw G a2 g0) ++ aw G a3 g0) ++ aw G a4 g0) ++ aw G a5 g0) (at_aisle G a6 g0)) rfl rfl (by decide) (by decide) dX6_init_47 (fun H locs wo => ?_)
  have wo : Wo G A s.heap H locs ((h, .inr (6, [.ref (ad 12), .ref ak, .int 0])) :: (ak, .inl (G.2 3, 8, .inr (.inr (.inr (.inr (va_up (va_up (va_up (va_up (va_up (va_up (va_up (fun _ => none) 0 (some (a0 12))) 1 (some (a1 12))) 2 (some (a2 12))) 3 (some (a3 12))) 4 (some (a4 12))) 5 (some (a5 12))) 6 (some (a6 12)))))))) :: ((((((((aw G ad g0) ++ aw G a0 g0) ++ aw G a1 g0) ++ aw G a2 g0) ++ aw G a3 g0) ++ aw G a4 g0) ++ aw G a5 g0) ++ aw G a6 g0)) := wo
  refine lv_iinc (v := 7) (lv' := [(1, .int 7), (0, .ref h)]) hx hb dX6_init_48 hl (k := 0) rfl (by decide) (by decide) rfl (fun ls hl => ?_)
  refine lv_goto (tgt := 26) hx hb dX6_init_51 (by decide) ?_
  refine lv_iload_n hx hb dX6_init_26 rfl (lv_at hl 0 rfl) ?_
  refine lv_aload_n hx hb dX6_init_27 rfl (lv_at hl 1 rfl) ?_
  refine gf (fun X => X) Fr_id cx wo (j := 0) rfl rfl (k := 1) (by decide) in_hot rfl m_283 rfl dX6_init_28 ?_
  refine alen (v := 8) (fun X => X) Fr_id cx wo (j := 1) rfl (t0 := 3) rfl rfl dX6_init_31 ?_
  refine lv_icmp_ge (tgt := 54) hx hb dX6_init_32 (by decide) (fun h => absurd h (by decide)) (fun _ => ?_)
  refine lv_aload_n hx hb dX6_init_35 rfl (lv_at hl 1 rfl) ?_
  refine gf (fun X => X) Fr_id cx wo (j := 0) rfl rfl (k := 1) (by decide) in_hot rfl m_283 rfl dX6_init_36 ?_
  refine lv_iload_n hx hb dX6_init_39 rfl (lv_at hl 0 rfl) ?_
  refine nobj (ci := 0) (fs := [.null, .null, .null, .null, .null, .null, .int 0, .int 0, .int 0]) cx wo in_aisle tyX0 tyX0_ok m_56 m_57 m_40 rfl (fun j hj => by rcases (show j = 0 ∨ j = 1 ∨ j = 2 ∨ j = 3 ∨ j = 4 ∨ j = 5 ∨ j = 6 ∨ j = 7 ∨ j = 8 by omega) with rfl | rfl | rfl | rfl | rfl | rfl | rfl | rfl | rfl <;> rfl) (by decide) (by decide) dX6_init_40 (fun q7 H wo => ?_)
  have wo : Wo G A s.heap H locs (((h, .inr (6, [.ref (ad 12), .ref ak, .int 0])) :: (ak, .inl (G.2 3, 8, .inr (.inr (.inr (.inr (va_up (va_up (va_up (va_up (va_up (va_up (va_up (fun _ => none) 0 (some (a0 12))) 1 (some (a1 12))) 2 (some (a2 12))) 3 (some (a3 12))) 4 (some (a4 12))) 5 (some (a5 12))) 6 (some (a6 12)))))))) :: ((((((((aw G ad g0) ++ aw G a0 g0) ++ aw G a1 g0) ++ aw G a2 g0) ++ aw G a3 g0) ++ aw G a4 g0) ++ aw G a5 g0) ++ aw G a6 g0)) ++ [(q7, .inr (0, [.null, .null, .null, .null, .null, .null, .int 0, .int 0, .int 0]))]) := wo
  refine lv_dup hx hb dX6_init_43 rfl ?_
  refine call_IS (As := []) (rest := [.ref q7, .int 7, .ref ak]) (fun X => ((h, .inr (6, [.ref (ad 12), .ref ak, .int 0])) :: (ak, .inl (G.2 3, 8, .inr (.inr (.inr (.inr (va_up (va_up (va_up (va_up (va_up (va_up (va_up (fun _ => none) 0 (some (a0 12))) 1 (some (a1 12))) 2 (some (a2 12))) 3 (some (a3 12))) 4 (some (a4 12))) 5 (some (a5 12))) 6 (some (a6 12)))))))) :: ((((((((aw G ad g0) ++ aw G a0 g0) ++ aw G a1 g0) ++ aw G a2 g0) ++ aw G a3 g0) ++ aw G a4 g0) ++ aw G a5 g0) ++ aw G a6 g0)) ++ X) (Fr_r _) cx hSF (c_X0_init l G q7) fx_X0_init m_58 m_59 rfl ⟨by decide, by decide⟩ wo rfl hl.1 rfl (Nat.le_of_ble_eq_true rfl) dX6_init_44 ⟨by decide, by decide⟩ (fun v W1 H locs hp wo2 => ?_)
  obtain ⟨rfl, a7, rfl, hpm7⟩ := hp
  refine nrm_v ?_
  have wo : Wo G A s.heap H locs ((h, .inr (6, [.ref (ad 12), .ref ak, .int 0])) :: (ak, .inl (G.2 3, 8, .inr (.inr (.inr (.inr (va_up (va_up (va_up (va_up (va_up (va_up (va_up (fun _ => none) 0 (some (a0 12))) 1 (some (a1 12))) 2 (some (a2 12))) 3 (some (a3 12))) 4 (some (a4 12))) 5 (some (a5 12))) 6 (some (a6 12)))))))) :: (((((((((aw G ad g0) ++ aw G a0 g0) ++ aw G a1 g0) ++ aw G a2 g0) ++ aw G a3 g0) ++ aw G a4 g0) ++ aw G a5 g0) ++ aw G a6 g0) ++ aw G a7 g0)) := Wo_perm (hpm7.append_left _) wo2
  refine ast_q (j := 1) (n := 7) (qk := ((((((((aw G ad g0) ++ aw G a0 g0) ++ aw G a1 g0) ++ aw G a2 g0) ++ aw G a3 g0) ++ aw G a4 g0) ++ aw G a5 g0) ++ aw G a6 g0).length + 12 + 2) (t0 := 3) (r := ("HotAisle$Aisle", TX0, 9)) cx wo rfl rfl (at_end ((((((((aw G ad g0) ++ aw G a0 g0) ++ aw G a1 g0) ++ aw G a2 g0) ++ aw G a3 g0) ++ aw G a4 g0) ++ aw G a5 g0) ++ aw G a6 g0) (at_aisle G a7 g0)) rfl rfl (by decide) (by decide) dX6_init_47 (fun H locs wo => ?_)
  have wo : Wo G A s.heap H locs ((h, .inr (6, [.ref (ad 12), .ref ak, .int 0])) :: (ak, .inl (G.2 3, 8, .inr (.inr (.inr (.inr (va_up (va_up (va_up (va_up (va_up (va_up (va_up (va_up (fun _ => none) 0 (some (a0 12))) 1 (some (a1 12))) 2 (some (a2 12))) 3 (some (a3 12))) 4 (some (a4 12))) 5 (some (a5 12))) 6 (some (a6 12))) 7 (some (a7 12)))))))) :: (((((((((aw G ad g0) ++ aw G a0 g0) ++ aw G a1 g0) ++ aw G a2 g0) ++ aw G a3 g0) ++ aw G a4 g0) ++ aw G a5 g0) ++ aw G a6 g0) ++ aw G a7 g0)) := wo
  refine lv_iinc (v := 8) (lv' := [(1, .int 8), (0, .ref h)]) hx hb dX6_init_48 hl (k := 0) rfl (by decide) (by decide) rfl (fun ls hl => ?_)
  refine lv_goto (tgt := 26) hx hb dX6_init_51 (by decide) ?_
  refine lv_iload_n hx hb dX6_init_26 rfl (lv_at hl 0 rfl) ?_
  refine lv_aload_n hx hb dX6_init_27 rfl (lv_at hl 1 rfl) ?_
  refine gf (fun X => X) Fr_id cx wo (j := 0) rfl rfl (k := 1) (by decide) in_hot rfl m_283 rfl dX6_init_28 ?_
  refine alen (v := 8) (fun X => X) Fr_id cx wo (j := 1) rfl (t0 := 3) rfl rfl dX6_init_31 ?_
  refine lv_icmp_ge (tgt := 54) hx hb dX6_init_32 (by decide) (fun _ => ?_) (fun h => absurd (show ¬ _ from h) (by decide))
  obtain ⟨ka, hka⟩ : ∃ ka : Nat → Nat → Nat, ka = fun j => ([a0, a1, a2, a3, a4, a5, a6, a7] : List (Nat → Nat)).getD j ad := ⟨_, rfl⟩
  have wo := Wo_arr (k := 1) (fun i => some (ka i 12)) rfl (fun i hi => by rcases (show i = 0 ∨ i = 1 ∨ i = 2 ∨ i = 3 ∨ i = 4 ∨ i = 5 ∨ i = 6 ∨ i = 7 by omega) with rfl | rfl | rfl | rfl | rfl | rfl | rfl | rfl <;> (subst hka; rfl)) wo
  have e : kw G ka (fun _ => g0) = aw G a0 g0 ++ (aw G a1 g0 ++ (aw G a2 g0 ++ (aw G a3 g0 ++ (aw G a4 g0 ++ (aw G a5 g0 ++ (aw G a6 g0 ++ (aw G a7 g0))))))) := by
    subst hka
    unfold kw
    rw [List.flatMap_def, show List.range 8 = [0, 1, 2, 3, 4, 5, 6, 7] from rfl]
    simp only [List.map_cons, List.map_nil, List.flatten_cons, List.flatten_nil, List.append_nil]
    rfl
  have wo : Wo G A s.heap H locs (tfr G h ak (ad 12) 0 (fun i => some (ka i 12)) (kw G ka (fun _ => g0)) (aw G ad g0)) := by
    unfold tfr
    rw [e]
    simp only [List.append_assoc] at wo
    exact wo
  exact r2_v cx hQ wo dX6_init_54 ⟨rfl, ak, ad, ka, rfl⟩
