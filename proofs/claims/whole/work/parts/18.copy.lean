/-! printed walks: copies of an aisle -/
theorem itl {α : Sort _} {c : Prop} [Decidable c] {a b r : α} (h1 : c → a = r) (h2 : ¬ c → b = r) : (if c then a else b) = r := by
  by_cases h : c
  · rw [if_pos h]; exact h1 h
  · rw [if_neg h]; exact h2 h
abbrev rm_X4_addAll_2 : Room := { frames := 0, cells := 0, slots := 0, locals := 0 }
def m_X4_addAll_2 (g g2 : St) (t : Nat) : St :=
  (upd (upd (upd (upd g (4 * t) ((g (4 * t)) + (g2 (4 * t)))) (1 + 4 * t) ((g (1 + 4 * t)) + (g2 (1 + 4 * t)))) (2 + 4 * t) ((g (2 + 4 * t)) + (g2 (2 + 4 * t)))) (3 + 4 * t) ((g (3 + 4 * t)) + (g2 (3 + 4 * t))))
set_option maxHeartbeats 4000000 in
set_option maxRecDepth 100000 in
theorem c_X4_addAll_2 (l : Launch) (G : GG) (ad ad2 : Nat → Nat) (g g2 : St) {t : Nat} (ht : t < 19) (hn : t ≠ 12) : Ct l G yX4_addAll cX4_addAll 2 (none : Option Jvm.ClassFile.FieldType) rm_X4_addAll_2 [.ref (ad t), .ref (ad2 t)] (aw G ad g ++ aw G ad2 g2) (fun rv W1 => rv = none ∧ W1 = aw G ad (m_X4_addAll_2 g g2 t) ++ aw G ad2 g2) := by
  refine Ct.mk2 (by decide) (Nat.le_of_ble_eq_true rfl) ?_
  intro p e s m args below meth c A H locs ls Q cx wo hl hQ
  obtain ⟨hx, hb, hml, hr, hlo, hown, hts, hnm, kn, hA⟩ := id cx
  have hl : lv_has ls 2 [(0, .ref (ad t)), (1, .ref (ad2 t))] := hl
  generalize hM : m_X4_addAll_2 g g2 t = M at hQ
  unfold m_X4_addAll_2 at hM
  refine lv_aload_n hx hb dX4_addAll_0 rfl (lv_at hl 0 rfl) ?_
  refine lv_dup hx hb dX4_addAll_1 rfl ?_
  refine gfi_stuff_copper (t := t) (i := 4 * t) (fun X => X ++ aw G ad2 g2) (Fr_l _) cx wo (by omega) (by omega) (by omega) m_68 dX4_addAll_2 ?_
  refine lv_aload_n hx hb dX4_addAll_5 rfl (lv_at hl 1 rfl) ?_
  refine gfi_stuff_copper (t := t) (i := 4 * t) (fun X => aw G ad g ++ X) (Fr_r _) cx wo (by omega) (by omega) (by omega) m_68 dX4_addAll_6 ?_
  refine lv_iadd hx hb dX4_addAll_9 ?_
  refine pfi_stuff_copper (t := t) (i := 4 * t) (fun X => X ++ aw G ad2 g2) (Fr_l _) cx wo (by omega) (by omega) (by omega) m_68 dX4_addAll_10 (fun H locs gz hgz wo => ?_)
  subst hgz
  refine lv_aload_n hx hb dX4_addAll_13 rfl (lv_at hl 0 rfl) ?_
  refine lv_dup hx hb dX4_addAll_14 rfl ?_
  refine gfi_stuff_iron (t := t) (i := 1 + 4 * t) (fun X => X ++ aw G ad2 g2) (Fr_l _) cx wo (by omega) (by omega) (by omega) m_72 dX4_addAll_15 ?_
  refine tope (y := (g (1 + 4 * t))) (show (upd g (4 * t) ((g (4 * t)) + (g2 (4 * t)))) (1 + 4 * t) = (g (1 + 4 * t)) from (rdN (by omega) rfl)) ?_
  refine lv_aload_n hx hb dX4_addAll_18 rfl (lv_at hl 1 rfl) ?_
  refine gfi_stuff_iron (t := t) (i := 1 + 4 * t) (fun X => aw G ad (upd g (4 * t) ((g (4 * t)) + (g2 (4 * t)))) ++ X) (Fr_r _) cx wo (by omega) (by omega) (by omega) m_72 dX4_addAll_19 ?_
  refine lv_iadd hx hb dX4_addAll_22 ?_
  refine pfi_stuff_iron (t := t) (i := 1 + 4 * t) (fun X => X ++ aw G ad2 g2) (Fr_l _) cx wo (by omega) (by omega) (by omega) m_72 dX4_addAll_23 (fun H locs gz hgz wo => ?_)
  subst hgz
  refine lv_aload_n hx hb dX4_addAll_26 rfl (lv_at hl 0 rfl) ?_
  refine lv_dup hx hb dX4_addAll_27 rfl ?_
  refine gfi_stuff_sulphur (t := t) (i := 2 + 4 * t) (fun X => X ++ aw G ad2 g2) (Fr_l _) cx wo (by omega) (by omega) (by omega) m_74 dX4_addAll_28 ?_
  refine tope (y := (g (2 + 4 * t))) (show (upd (upd g (4 * t) ((g (4 * t)) + (g2 (4 * t)))) (1 + 4 * t) ((g (1 + 4 * t)) + (g2 (1 + 4 * t)))) (2 + 4 * t) = (g (2 + 4 * t)) from (rdN (by omega) (rdN (by omega) rfl))) ?_
  refine lv_aload_n hx hb dX4_addAll_31 rfl (lv_at hl 1 rfl) ?_
  refine gfi_stuff_sulphur (t := t) (i := 2 + 4 * t) (fun X => aw G ad (upd (upd g (4 * t) ((g (4 * t)) + (g2 (4 * t)))) (1 + 4 * t) ((g (1 + 4 * t)) + (g2 (1 + 4 * t)))) ++ X) (Fr_r _) cx wo (by omega) (by omega) (by omega) m_74 dX4_addAll_32 ?_
  refine lv_iadd hx hb dX4_addAll_35 ?_
  refine pfi_stuff_sulphur (t := t) (i := 2 + 4 * t) (fun X => X ++ aw G ad2 g2) (Fr_l _) cx wo (by omega) (by omega) (by omega) m_74 dX4_addAll_36 (fun H locs gz hgz wo => ?_)
  subst hgz
  refine lv_aload_n hx hb dX4_addAll_39 rfl (lv_at hl 0 rfl) ?_
  refine lv_dup hx hb dX4_addAll_40 rfl ?_
  refine gfi_stuff_slag (t := t) (i := 3 + 4 * t) (fun X => X ++ aw G ad2 g2) (Fr_l _) cx wo (by omega) (by omega) (by omega) m_77 dX4_addAll_41 ?_
  refine tope (y := (g (3 + 4 * t))) (show (upd (upd (upd g (4 * t) ((g (4 * t)) + (g2 (4 * t)))) (1 + 4 * t) ((g (1 + 4 * t)) + (g2 (1 + 4 * t)))) (2 + 4 * t) ((g (2 + 4 * t)) + (g2 (2 + 4 * t)))) (3 + 4 * t) = (g (3 + 4 * t)) from (rdN (by omega) (rdN (by omega) (rdN (by omega) rfl)))) ?_
  refine lv_aload_n hx hb dX4_addAll_44 rfl (lv_at hl 1 rfl) ?_
  refine gfi_stuff_slag (t := t) (i := 3 + 4 * t) (fun X => aw G ad (upd (upd (upd g (4 * t) ((g (4 * t)) + (g2 (4 * t)))) (1 + 4 * t) ((g (1 + 4 * t)) + (g2 (1 + 4 * t)))) (2 + 4 * t) ((g (2 + 4 * t)) + (g2 (2 + 4 * t)))) ++ X) (Fr_r _) cx wo (by omega) (by omega) (by omega) m_77 dX4_addAll_45 ?_
  refine lv_iadd hx hb dX4_addAll_48 ?_
  refine pfi_stuff_slag (t := t) (i := 3 + 4 * t) (fun X => X ++ aw G ad2 g2) (Fr_l _) cx wo (by omega) (by omega) (by omega) m_77 dX4_addAll_49 (fun H locs gz hgz wo => ?_)
  subst hgz
  exact r2_v cx hQ wo dX4_addAll_52 (by subst hM; exact ⟨rfl, rfl⟩)
abbrev rm_X4_copyFrom : Room := { frames := 1, cells := 0, slots := 0, locals := 21 }
def m_X4_copyFrom (g g2 : St) (t : Nat) : St :=
  (m_X4_addAll_2 (m_X4_clear g t) g2 t)
set_option maxHeartbeats 4000000 in
set_option maxRecDepth 100000 in
theorem c_X4_copyFrom (l : Launch) (G : GG) (ad ad2 : Nat → Nat) (g g2 : St) {t : Nat} (ht : t < 19) (hn : t ≠ 12) : Ct l G yX4_copyFrom cX4_copyFrom 2 (none : Option Jvm.ClassFile.FieldType) rm_X4_copyFrom [.ref (ad t), .ref (ad2 t)] (aw G ad g ++ aw G ad2 g2) (fun rv W1 => rv = none ∧ W1 = aw G ad (m_X4_copyFrom g g2 t) ++ aw G ad2 g2) := by
  refine Ct.mk2 (by decide) (Nat.le_of_ble_eq_true rfl) ?_
  intro p e s m args below meth c A H locs ls Q cx wo hl hQ
  obtain ⟨hx, hb, hml, hr, hlo, hown, hts, hnm, kn, hA⟩ := id cx
  have hl : lv_has ls 2 [(0, .ref (ad t)), (1, .ref (ad2 t))] := hl
  generalize hM : m_X4_copyFrom g g2 t = M at hQ
  unfold m_X4_copyFrom at hM
  refine lv_aload_n hx hb dX4_copyFrom_0 rfl (lv_at hl 0 rfl) ?_
  refine call_V (As := []) (rest := []) (fun X => X ++ aw G ad2 g2) (Fr_l _) cx (c_X4_clear l G ad _ (t := t) (by omega) (by omega)) fx_X4_clear m_597 m_502 m_503 ⟨by decide, by decide⟩ wo (at_stuff G _ _ (t := t) (by omega) (by omega)) rfl rfl rfl hl.1 rfl (Nat.le_of_ble_eq_true rfl) dX4_copyFrom_1 ⟨by decide, by decide⟩ (fun v W1 H locs hp wo => ?_)
  obtain ⟨rfl, rfl⟩ := hp
  refine nrm_v ?_
  refine lv_aload_n hx hb dX4_copyFrom_4 rfl (lv_at hl 0 rfl) ?_
  refine lv_aload_n hx hb dX4_copyFrom_5 rfl (lv_at hl 1 rfl) ?_
  refine call_V (As := [.ref (ad2 t)]) (rest := []) (fun X => X) Fr_id cx (c_X4_addAll_2 l G ad ad2 _ _ (t := t) (by omega) (by omega)) fx_X4_addAll m_598 m_494 m_495 ⟨by decide, by decide⟩ wo (at_app (at_stuff G _ _ (t := t) (by omega) (by omega))) rfl rfl rfl hl.1 rfl (Nat.le_of_ble_eq_true rfl) dX4_copyFrom_6 ⟨by decide, by decide⟩ (fun v W1 H locs hp wo => ?_)
  obtain ⟨rfl, rfl⟩ := hp
  refine nrm_v ?_
  exact r2_v cx hQ wo dX4_copyFrom_9 (by subst hM; exact ⟨rfl, rfl⟩)
theorem m_X4_copyFrom_at (g g2 : St) (t i : Nat) : m_X4_copyFrom g g2 t i = if 4 * t ≤ i ∧ i < 4 * t + 4 then g2 i else g i := by
  unfold m_X4_copyFrom m_X4_addAll_2 m_X4_clear
  simp only [upd]
  by_cases h : 4 * t ≤ i ∧ i < 4 * t + 4
  · rw [if_pos h]
    obtain rfl | rfl | rfl | rfl : i = 4 * t ∨ i = 1 + 4 * t ∨ i = 2 + 4 * t ∨ i = 3 + 4 * t := by omega
    all_goals (simp (disch := omega) only [if_pos, if_neg]; simp)
  · rw [if_neg h]
    simp (disch := omega) only [if_neg]
abbrev rm_X5_copyFrom : Room := { frames := 2, cells := 0, slots := 0, locals := 42 }
def m_X5_copyFrom (g g2 : St) (v : Nat) : St :=
  (upd (upd (upd (upd (m_X4_copyFrom g g2 (1 + v)) (76 + v) (g2 (76 + v))) (82 + v) (g2 (82 + v))) (85 + v) (g2 (85 + v))) (79 + v) (g2 (79 + v)))
set_option maxHeartbeats 4000000 in
set_option maxRecDepth 100000 in
theorem c_X5_copyFrom (l : Launch) (G : GG) (ad ad2 : Nat → Nat) (g g2 : St) {v : Nat} (hv : v < 3) (hz : g2 (79 + v) = 0 ∨ g2 (79 + v) = 1) : Ct l G yX5_copyFrom cX5_copyFrom 2 (none : Option Jvm.ClassFile.FieldType) rm_X5_copyFrom [.ref (ad (19 + v)), .ref (ad2 (19 + v))] (aw G ad g ++ aw G ad2 g2) (fun rv W1 => rv = none ∧ W1 = aw G ad (m_X5_copyFrom g g2 v) ++ aw G ad2 g2) := by
  refine Ct.mk2 (by decide) (Nat.le_of_ble_eq_true rfl) ?_
  intro p e s m args below meth c A H locs ls Q cx wo hl hQ
  obtain ⟨hx, hb, hml, hr, hlo, hown, hts, hnm, kn, hA⟩ := id cx
  have hl : lv_has ls 2 [(0, .ref (ad (19 + v))), (1, .ref (ad2 (19 + v)))] := hl
  generalize hM : m_X5_copyFrom g g2 v = M at hQ
  unfold m_X5_copyFrom at hM
  refine lv_aload_n hx hb dX5_copyFrom_0 rfl (lv_at hl 0 rfl) ?_
  refine gf_vessel_stuff (v := v) (fun X => X ++ aw G ad2 g2) (Fr_l _) cx wo (by omega) m_196 dX5_copyFrom_1 ?_
  refine topv (y := .ref (ad (1 + v))) (congrArg (fun z => Value.ref (ad z)) (by omega)) ?_
  refine lv_aload_n hx hb dX5_copyFrom_4 rfl (lv_at hl 1 rfl) ?_
  refine gf_vessel_stuff (v := v) (fun X => aw G ad g ++ X) (Fr_r _) cx wo (by omega) m_196 dX5_copyFrom_5 ?_
  refine topv (y := .ref (ad2 (1 + v))) (congrArg (fun z => Value.ref (ad2 z)) (by omega)) ?_
  refine call_V (As := [.ref (ad2 (1 + v))]) (rest := []) (fun X => X) Fr_id cx (c_X4_copyFrom l G ad ad2 _ _ (t := 1 + v) (by omega) (by omega)) fx_X4_copyFrom m_603 m_594 m_595 ⟨by decide, by decide⟩ wo (at_app (at_stuff G _ _ (t := 1 + v) (by omega) (by omega))) rfl rfl rfl hl.1 rfl (Nat.le_of_ble_eq_true rfl) dX5_copyFrom_8 ⟨by decide, by decide⟩ (fun v W1 H locs hp wo => ?_)
  obtain ⟨rfl, rfl⟩ := hp
  refine nrm_v ?_
  refine lv_aload_n hx hb dX5_copyFrom_11 rfl (lv_at hl 0 rfl) ?_
  refine lv_aload_n hx hb dX5_copyFrom_12 rfl (lv_at hl 1 rfl) ?_
  refine gf_vessel_heat (v := v) (fun X => aw G ad (m_X4_copyFrom g g2 (1 + v)) ++ X) (Fr_r _) cx wo (by omega) m_199 dX5_copyFrom_13 ?_
  refine pf_vessel_heat (v := v) (fun X => X ++ aw G ad2 g2) (Fr_l _) cx wo (by omega) m_199 dX5_copyFrom_16 (fun H locs gz hgz wo => ?_)
  subst hgz
  refine lv_aload_n hx hb dX5_copyFrom_19 rfl (lv_at hl 0 rfl) ?_
  refine lv_aload_n hx hb dX5_copyFrom_20 rfl (lv_at hl 1 rfl) ?_
  refine gf_vessel_held (v := v) (fun X => aw G ad (upd (m_X4_copyFrom g g2 (1 + v)) (76 + v) (g2 (76 + v))) ++ X) (Fr_r _) cx wo (by omega) m_202 dX5_copyFrom_21 ?_
  refine pf_vessel_held (v := v) (fun X => X ++ aw G ad2 g2) (Fr_l _) cx wo (by omega) m_202 dX5_copyFrom_24 (fun H locs gz hgz wo => ?_)
  subst hgz
  refine lv_aload_n hx hb dX5_copyFrom_27 rfl (lv_at hl 0 rfl) ?_
  refine lv_aload_n hx hb dX5_copyFrom_28 rfl (lv_at hl 1 rfl) ?_
  refine gf_vessel_stopped (v := v) (fun X => aw G ad (upd (upd (m_X4_copyFrom g g2 (1 + v)) (76 + v) (g2 (76 + v))) (82 + v) (g2 (82 + v))) ++ X) (Fr_r _) cx wo (by omega) m_204 dX5_copyFrom_29 ?_
  refine pf_vessel_stopped (v := v) (fun X => X ++ aw G ad2 g2) (Fr_l _) cx wo (by omega) m_204 dX5_copyFrom_32 (fun H locs gz hgz wo => ?_)
  subst hgz
  refine lv_aload_n hx hb dX5_copyFrom_35 rfl (lv_at hl 0 rfl) ?_
  refine lv_aload_n hx hb dX5_copyFrom_36 rfl (lv_at hl 1 rfl) ?_
  refine gf_vessel_isBlown (v := v) (fun X => aw G ad (upd (upd (upd (m_X4_copyFrom g g2 (1 + v)) (76 + v) (g2 (76 + v))) (82 + v) (g2 (82 + v))) (85 + v) (g2 (85 + v))) ++ X) (Fr_r _) cx wo (by omega) m_206 dX5_copyFrom_37 ?_
  refine pf_vessel_isBlown (v := v) (fun X => X ++ aw G ad2 g2) (Fr_l _) cx wo (by omega) m_206 (hz_nar hz) (hz_fit hz) dX5_copyFrom_40 (fun H locs gz hgz wo => ?_)
  subst hgz
  exact r2_v cx hQ wo dX5_copyFrom_43 (by subst hM; exact ⟨rfl, rfl⟩)
theorem m_X5_copyFrom_at (g g2 : St) (v i : Nat) : m_X5_copyFrom g g2 v i = if (4 * (1 + v) ≤ i ∧ i < 4 * (1 + v) + 4) ∨ i = 76 + v ∨ i = 82 + v ∨ i = 85 + v ∨ i = 79 + v then g2 i else g i := by
  unfold m_X5_copyFrom
  simp only [upd, m_X4_copyFrom_at]
  (repeat' split) <;> first | rfl | omega | (subst_vars; rfl)
abbrev rm_X3_copyFrom : Room := { frames := 2, cells := 0, slots := 0, locals := 42 }
def m_X3_copyFrom (g g2 : St) (d : Nat) : St :=
  (upd (upd (upd (m_X4_copyFrom (m_X4_copyFrom g g2 (4 + d)) g2 (8 + d)) (88 + d) (g2 (88 + d))) (92 + d) (g2 (92 + d))) (96 + d) (g2 (96 + d)))
set_option maxHeartbeats 4000000 in
set_option maxRecDepth 100000 in
theorem c_X3_copyFrom (l : Launch) (G : GG) (ad ad2 : Nat → Nat) (g g2 : St) {d : Nat} (hd : d < 4) : Ct l G yX3_copyFrom cX3_copyFrom 2 (none : Option Jvm.ClassFile.FieldType) rm_X3_copyFrom [.ref (ad (22 + d)), .ref (ad2 (22 + d))] (aw G ad g ++ aw G ad2 g2) (fun rv W1 => rv = none ∧ W1 = aw G ad (m_X3_copyFrom g g2 d) ++ aw G ad2 g2) := by
  refine Ct.mk2 (by decide) (Nat.le_of_ble_eq_true rfl) ?_
  intro p e s m args below meth c A H locs ls Q cx wo hl hQ
  obtain ⟨hx, hb, hml, hr, hlo, hown, hts, hnm, kn, hA⟩ := id cx
  have hl : lv_has ls 2 [(0, .ref (ad (22 + d))), (1, .ref (ad2 (22 + d)))] := hl
  generalize hM : m_X3_copyFrom g g2 d = M at hQ
  unfold m_X3_copyFrom at hM
  refine lv_aload_n hx hb dX3_copyFrom_0 rfl (lv_at hl 0 rfl) ?_
  refine gf_ladle_stuff (d := d) (fun X => X ++ aw G ad2 g2) (Fr_l _) cx wo (by omega) m_229 dX3_copyFrom_1 ?_
  refine topv (y := .ref (ad (4 + d))) (congrArg (fun z => Value.ref (ad z)) (by omega)) ?_
  refine lv_aload_n hx hb dX3_copyFrom_4 rfl (lv_at hl 1 rfl) ?_
  refine gf_ladle_stuff (d := d) (fun X => aw G ad g ++ X) (Fr_r _) cx wo (by omega) m_229 dX3_copyFrom_5 ?_
  refine topv (y := .ref (ad2 (4 + d))) (congrArg (fun z => Value.ref (ad2 z)) (by omega)) ?_
  refine call_V (As := [.ref (ad2 (4 + d))]) (rest := []) (fun X => X) Fr_id cx (c_X4_copyFrom l G ad ad2 _ _ (t := 4 + d) (by omega) (by omega)) fx_X4_copyFrom m_608 m_594 m_595 ⟨by decide, by decide⟩ wo (at_app (at_stuff G _ _ (t := 4 + d) (by omega) (by omega))) rfl rfl rfl hl.1 rfl (Nat.le_of_ble_eq_true rfl) dX3_copyFrom_8 ⟨by decide, by decide⟩ (fun v W1 H locs hp wo => ?_)
  obtain ⟨rfl, rfl⟩ := hp
  refine nrm_v ?_
  refine lv_aload_n hx hb dX3_copyFrom_11 rfl (lv_at hl 0 rfl) ?_
  refine gf_ladle_skull (d := d) (fun X => X ++ aw G ad2 g2) (Fr_l _) cx wo (by omega) m_231 dX3_copyFrom_12 ?_
  refine topv (y := .ref (ad (8 + d))) (congrArg (fun z => Value.ref (ad z)) (by omega)) ?_
  refine lv_aload_n hx hb dX3_copyFrom_15 rfl (lv_at hl 1 rfl) ?_
  refine gf_ladle_skull (d := d) (fun X => aw G ad (m_X4_copyFrom g g2 (4 + d)) ++ X) (Fr_r _) cx wo (by omega) m_231 dX3_copyFrom_16 ?_
  refine topv (y := .ref (ad2 (8 + d))) (congrArg (fun z => Value.ref (ad2 z)) (by omega)) ?_
  refine call_V (As := [.ref (ad2 (8 + d))]) (rest := []) (fun X => X) Fr_id cx (c_X4_copyFrom l G ad ad2 _ _ (t := 8 + d) (by omega) (by omega)) fx_X4_copyFrom m_608 m_594 m_595 ⟨by decide, by decide⟩ wo (at_app (at_stuff G _ _ (t := 8 + d) (by omega) (by omega))) rfl rfl rfl hl.1 rfl (Nat.le_of_ble_eq_true rfl) dX3_copyFrom_19 ⟨by decide, by decide⟩ (fun v W1 H locs hp wo => ?_)
  obtain ⟨rfl, rfl⟩ := hp
  refine nrm_v ?_
  refine lv_aload_n hx hb dX3_copyFrom_22 rfl (lv_at hl 0 rfl) ?_
  refine lv_aload_n hx hb dX3_copyFrom_23 rfl (lv_at hl 1 rfl) ?_
  refine gf_ladle_place (d := d) (fun X => aw G ad (m_X4_copyFrom (m_X4_copyFrom g g2 (4 + d)) g2 (8 + d)) ++ X) (Fr_r _) cx wo (by omega) m_233 dX3_copyFrom_24 ?_
  refine pf_ladle_place (d := d) (fun X => X ++ aw G ad2 g2) (Fr_l _) cx wo (by omega) m_233 dX3_copyFrom_27 (fun H locs gz hgz wo => ?_)
  subst hgz
  refine lv_aload_n hx hb dX3_copyFrom_30 rfl (lv_at hl 0 rfl) ?_
  refine lv_aload_n hx hb dX3_copyFrom_31 rfl (lv_at hl 1 rfl) ?_
  refine gf_ladle_carrier (d := d) (fun X => aw G ad (upd (m_X4_copyFrom (m_X4_copyFrom g g2 (4 + d)) g2 (8 + d)) (88 + d) (g2 (88 + d))) ++ X) (Fr_r _) cx wo (by omega) m_235 dX3_copyFrom_32 ?_
  refine pf_ladle_carrier (d := d) (fun X => X ++ aw G ad2 g2) (Fr_l _) cx wo (by omega) m_235 dX3_copyFrom_35 (fun H locs gz hgz wo => ?_)
  subst hgz
  refine lv_aload_n hx hb dX3_copyFrom_38 rfl (lv_at hl 0 rfl) ?_
  refine lv_aload_n hx hb dX3_copyFrom_39 rfl (lv_at hl 1 rfl) ?_
  refine gf_ladle_sort (d := d) (fun X => aw G ad (upd (upd (m_X4_copyFrom (m_X4_copyFrom g g2 (4 + d)) g2 (8 + d)) (88 + d) (g2 (88 + d))) (92 + d) (g2 (92 + d))) ++ X) (Fr_r _) cx wo (by omega) m_237 dX3_copyFrom_40 ?_
  refine pf_ladle_sort (d := d) (fun X => X ++ aw G ad2 g2) (Fr_l _) cx wo (by omega) m_237 dX3_copyFrom_43 (fun H locs gz hgz wo => ?_)
  subst hgz
  exact r2_v cx hQ wo dX3_copyFrom_46 (by subst hM; exact ⟨rfl, rfl⟩)
theorem m_X3_copyFrom_at (g g2 : St) (d i : Nat) : m_X3_copyFrom g g2 d i = if (4 * (4 + d) ≤ i ∧ i < 4 * (4 + d) + 4) ∨ (4 * (8 + d) ≤ i ∧ i < 4 * (8 + d) + 4) ∨ i = 88 + d ∨ i = 92 + d ∨ i = 96 + d then g2 i else g i := by
  unfold m_X3_copyFrom
  simp only [upd, m_X4_copyFrom_at]
  (repeat' split) <;> first | rfl | omega | (subst_vars; rfl)
abbrev rm_X6_copyRow_wh : Room := { frames := 0, cells := 0, slots := 0, locals := 0 }
def m_X6_copyRow_wh (g g2 : St) (r : Nat) : St :=
  (upd (upd (upd (upd (upd (upd (upd (upd g (108 + 16 * r) (g2 (108 + 16 * r))) (110 + 16 * r) (g2 (110 + 16 * r))) (112 + 16 * r) (g2 (112 + 16 * r))) (114 + 16 * r) (g2 (114 + 16 * r))) (116 + 16 * r) (g2 (116 + 16 * r))) (118 + 16 * r) (g2 (118 + 16 * r))) (120 + 16 * r) (g2 (120 + 16 * r))) (122 + 16 * r) (g2 (122 + 16 * r)))
set_option maxHeartbeats 4000000 in
set_option maxRecDepth 100000 in
theorem c_X6_copyRow_wh (l : Launch) (G : GG) (ad ad2 : Nat → Nat) (g g2 : St) {r : Nat} (hr : r < 2) : Ct l G yX6_copyRow cX6_copyRow 3 (none : Option Jvm.ClassFile.FieldType) rm_X6_copyRow_wh [.ref (ad2 (31 + r)), .ref (ad (31 + r))] (aw G ad g ++ aw G ad2 g2) (fun rv W1 => rv = none ∧ W1 = aw G ad (m_X6_copyRow_wh g g2 r) ++ aw G ad2 g2) := by
  refine Ct.mk2 (by decide) (Nat.le_of_ble_eq_true rfl) ?_
  intro p e s m args below meth c A H locs ls Q cx wo hl hQ
  obtain ⟨hx, hb, hml, hr, hlo, hown, hts, hnm, kn, hA⟩ := id cx
  have hl : lv_has ls 3 [(0, .ref (ad2 (31 + r))), (1, .ref (ad (31 + r)))] := hl
  generalize hM : m_X6_copyRow_wh g g2 r = M at hQ
  unfold m_X6_copyRow_wh at hM
  refine lv_iconst (v := 0) hx hb dX6_copyRow_0 (by decide) ?_
  refine lv_istore_n (lv' := [(2, .int 0), (0, .ref (ad2 (31 + r))), (1, .ref (ad (31 + r)))]) hx hb dX6_copyRow_1 rfl hl (by decide) rfl (fun ls hl => ?_)
  refine lv_iload_n hx hb dX6_copyRow_2 rfl (lv_at hl 0 rfl) ?_
  refine lv_aload_n hx hb dX6_copyRow_3 rfl (lv_at hl 1 rfl) ?_
  refine alen (v := 8) (fun X => aw G ad g ++ X) (Fr_r _) cx wo (by rw [aw_at G _ _ (j := 31 + r) (by omega), ac_wh G _ _ (by omega)]) (t0 := 0) rfl rfl dX6_copyRow_4 ?_
  refine lv_icmp_ge (tgt := 26) hx hb dX6_copyRow_5 (by decide) (fun h => absurd h (by decide)) (fun _ => ?_)
  refine lv_iload_n hx hb dX6_copyRow_8 rfl (lv_at hl 0 rfl) ?_
  refine lv_aload_n hx hb dX6_copyRow_9 rfl (lv_at hl 2 rfl) ?_
  refine alen (v := 8) (fun X => X ++ aw G ad2 g2) (Fr_l _) cx wo (by rw [aw_at G _ _ (j := 31 + r) (by omega), ac_wh G _ _ (by omega)]) (t0 := 0) rfl rfl dX6_copyRow_10 ?_
  refine lv_icmp_ge (tgt := 26) hx hb dX6_copyRow_11 (by decide) (fun h => absurd h (by decide)) (fun _ => ?_)
  refine lv_aload_n hx hb dX6_copyRow_14 rfl (lv_at hl 2 rfl) ?_
  refine lv_iload_n hx hb dX6_copyRow_15 rfl (lv_at hl 0 rfl) ?_
  refine lv_aload_n hx hb dX6_copyRow_16 rfl (lv_at hl 1 rfl) ?_
  refine lv_iload_n hx hb dX6_copyRow_17 rfl (lv_at hl 0 rfl) ?_
  refine ald_wh (c := r) (n := 0) (fun X => aw G ad g ++ X) (Fr_r _) cx wo (by omega) rfl (by omega) dX6_copyRow_18 ?_
  refine tope (y := g2 (108 + 16 * r)) (congrArg g2 (by omega)) ?_
  refine ast_wh (c := r) (n := 0) (fun X => X ++ aw G ad2 g2) (Fr_l _) cx wo (by omega) rfl (by omega) dX6_copyRow_19 (fun H locs gz hgz wo => ?_)
  rw [show 108 + 16 * r + 2 * 0 = 108 + 16 * r from by omega] at hgz
  subst hgz
  refine lv_iinc (v := 1) (lv' := [(2, .int 1), (0, .ref (ad2 (31 + r))), (1, .ref (ad (31 + r)))]) hx hb dX6_copyRow_20 hl (k := 0) rfl (by decide) (by decide) rfl (fun ls hl => ?_)
  refine lv_goto (tgt := 2) hx hb dX6_copyRow_23 (by decide) ?_
  refine lv_iload_n hx hb dX6_copyRow_2 rfl (lv_at hl 0 rfl) ?_
  refine lv_aload_n hx hb dX6_copyRow_3 rfl (lv_at hl 1 rfl) ?_
  refine alen (v := 8) (fun X => aw G ad (upd g (108 + 16 * r) (g2 (108 + 16 * r))) ++ X) (Fr_r _) cx wo (by rw [aw_at G _ _ (j := 31 + r) (by omega), ac_wh G _ _ (by omega)]) (t0 := 0) rfl rfl dX6_copyRow_4 ?_
  refine lv_icmp_ge (tgt := 26) hx hb dX6_copyRow_5 (by decide) (fun h => absurd h (by decide)) (fun _ => ?_)
  refine lv_iload_n hx hb dX6_copyRow_8 rfl (lv_at hl 0 rfl) ?_
  refine lv_aload_n hx hb dX6_copyRow_9 rfl (lv_at hl 2 rfl) ?_
  refine alen (v := 8) (fun X => X ++ aw G ad2 g2) (Fr_l _) cx wo (by rw [aw_at G _ _ (j := 31 + r) (by omega), ac_wh G _ _ (by omega)]) (t0 := 0) rfl rfl dX6_copyRow_10 ?_
  refine lv_icmp_ge (tgt := 26) hx hb dX6_copyRow_11 (by decide) (fun h => absurd h (by decide)) (fun _ => ?_)
  refine lv_aload_n hx hb dX6_copyRow_14 rfl (lv_at hl 2 rfl) ?_
  refine lv_iload_n hx hb dX6_copyRow_15 rfl (lv_at hl 0 rfl) ?_
  refine lv_aload_n hx hb dX6_copyRow_16 rfl (lv_at hl 1 rfl) ?_
  refine lv_iload_n hx hb dX6_copyRow_17 rfl (lv_at hl 0 rfl) ?_
  refine ald_wh (c := r) (n := 1) (fun X => aw G ad (upd g (108 + 16 * r) (g2 (108 + 16 * r))) ++ X) (Fr_r _) cx wo (by omega) rfl (by omega) dX6_copyRow_18 ?_
  refine tope (y := g2 (110 + 16 * r)) (congrArg g2 (by omega)) ?_
  refine ast_wh (c := r) (n := 1) (fun X => X ++ aw G ad2 g2) (Fr_l _) cx wo (by omega) rfl (by omega) dX6_copyRow_19 (fun H locs gz hgz wo => ?_)
  rw [show 108 + 16 * r + 2 * 1 = 110 + 16 * r from by omega] at hgz
  subst hgz
  refine lv_iinc (v := 2) (lv' := [(2, .int 2), (0, .ref (ad2 (31 + r))), (1, .ref (ad (31 + r)))]) hx hb dX6_copyRow_20 hl (k := 0) rfl (by decide) (by decide) rfl (fun ls hl => ?_)
  refine lv_goto (tgt := 2) hx hb dX6_copyRow_23 (by decide) ?_
  refine lv_iload_n hx hb dX6_copyRow_2 rfl (lv_at hl 0 rfl) ?_
  refine lv_aload_n hx hb dX6_copyRow_3 rfl (lv_at hl 1 rfl) ?_
  refine alen (v := 8) (fun X => aw G ad (upd (upd g (108 + 16 * r) (g2 (108 + 16 * r))) (110 + 16 * r) (g2 (110 + 16 * r))) ++ X) (Fr_r _) cx wo (by rw [aw_at G _ _ (j := 31 + r) (by omega), ac_wh G _ _ (by omega)]) (t0 := 0) rfl rfl dX6_copyRow_4 ?_
  refine lv_icmp_ge (tgt := 26) hx hb dX6_copyRow_5 (by decide) (fun h => absurd h (by decide)) (fun _ => ?_)
  refine lv_iload_n hx hb dX6_copyRow_8 rfl (lv_at hl 0 rfl) ?_
  refine lv_aload_n hx hb dX6_copyRow_9 rfl (lv_at hl 2 rfl) ?_
  refine alen (v := 8) (fun X => X ++ aw G ad2 g2) (Fr_l _) cx wo (by rw [aw_at G _ _ (j := 31 + r) (by omega), ac_wh G _ _ (by omega)]) (t0 := 0) rfl rfl dX6_copyRow_10 ?_
  refine lv_icmp_ge (tgt := 26) hx hb dX6_copyRow_11 (by decide) (fun h => absurd h (by decide)) (fun _ => ?_)
  refine lv_aload_n hx hb dX6_copyRow_14 rfl (lv_at hl 2 rfl) ?_
  refine lv_iload_n hx hb dX6_copyRow_15 rfl (lv_at hl 0 rfl) ?_
  refine lv_aload_n hx hb dX6_copyRow_16 rfl (lv_at hl 1 rfl) ?_
  refine lv_iload_n hx hb dX6_copyRow_17 rfl (lv_at hl 0 rfl) ?_
  refine ald_wh (c := r) (n := 2) (fun X => aw G ad (upd (upd g (108 + 16 * r) (g2 (108 + 16 * r))) (110 + 16 * r) (g2 (110 + 16 * r))) ++ X) (Fr_r _) cx wo (by omega) rfl (by omega) dX6_copyRow_18 ?_
  refine tope (y := g2 (112 + 16 * r)) (congrArg g2 (by omega)) ?_
  refine ast_wh (c := r) (n := 2) (fun X => X ++ aw G ad2 g2) (Fr_l _) cx wo (by omega) rfl (by omega) dX6_copyRow_19 (fun H locs gz hgz wo => ?_)
  rw [show 108 + 16 * r + 2 * 2 = 112 + 16 * r from by omega] at hgz
  subst hgz
  refine lv_iinc (v := 3) (lv' := [(2, .int 3), (0, .ref (ad2 (31 + r))), (1, .ref (ad (31 + r)))]) hx hb dX6_copyRow_20 hl (k := 0) rfl (by decide) (by decide) rfl (fun ls hl => ?_)
  refine lv_goto (tgt := 2) hx hb dX6_copyRow_23 (by decide) ?_
  refine lv_iload_n hx hb dX6_copyRow_2 rfl (lv_at hl 0 rfl) ?_
  refine lv_aload_n hx hb dX6_copyRow_3 rfl (lv_at hl 1 rfl) ?_
  refine alen (v := 8) (fun X => aw G ad (upd (upd (upd g (108 + 16 * r) (g2 (108 + 16 * r))) (110 + 16 * r) (g2 (110 + 16 * r))) (112 + 16 * r) (g2 (112 + 16 * r))) ++ X) (Fr_r _) cx wo (by rw [aw_at G _ _ (j := 31 + r) (by omega), ac_wh G _ _ (by omega)]) (t0 := 0) rfl rfl dX6_copyRow_4 ?_
  refine lv_icmp_ge (tgt := 26) hx hb dX6_copyRow_5 (by decide) (fun h => absurd h (by decide)) (fun _ => ?_)
  refine lv_iload_n hx hb dX6_copyRow_8 rfl (lv_at hl 0 rfl) ?_
  refine lv_aload_n hx hb dX6_copyRow_9 rfl (lv_at hl 2 rfl) ?_
  refine alen (v := 8) (fun X => X ++ aw G ad2 g2) (Fr_l _) cx wo (by rw [aw_at G _ _ (j := 31 + r) (by omega), ac_wh G _ _ (by omega)]) (t0 := 0) rfl rfl dX6_copyRow_10 ?_
  refine lv_icmp_ge (tgt := 26) hx hb dX6_copyRow_11 (by decide) (fun h => absurd h (by decide)) (fun _ => ?_)
  refine lv_aload_n hx hb dX6_copyRow_14 rfl (lv_at hl 2 rfl) ?_
  refine lv_iload_n hx hb dX6_copyRow_15 rfl (lv_at hl 0 rfl) ?_
  refine lv_aload_n hx hb dX6_copyRow_16 rfl (lv_at hl 1 rfl) ?_
  refine lv_iload_n hx hb dX6_copyRow_17 rfl (lv_at hl 0 rfl) ?_
  refine ald_wh (c := r) (n := 3) (fun X => aw G ad (upd (upd (upd g (108 + 16 * r) (g2 (108 + 16 * r))) (110 + 16 * r) (g2 (110 + 16 * r))) (112 + 16 * r) (g2 (112 + 16 * r))) ++ X) (Fr_r _) cx wo (by omega) rfl (by omega) dX6_copyRow_18 ?_
  refine tope (y := g2 (114 + 16 * r)) (congrArg g2 (by omega)) ?_
  refine ast_wh (c := r) (n := 3) (fun X => X ++ aw G ad2 g2) (Fr_l _) cx wo (by omega) rfl (by omega) dX6_copyRow_19 (fun H locs gz hgz wo => ?_)
  rw [show 108 + 16 * r + 2 * 3 = 114 + 16 * r from by omega] at hgz
  subst hgz
  refine lv_iinc (v := 4) (lv' := [(2, .int 4), (0, .ref (ad2 (31 + r))), (1, .ref (ad (31 + r)))]) hx hb dX6_copyRow_20 hl (k := 0) rfl (by decide) (by decide) rfl (fun ls hl => ?_)
  refine lv_goto (tgt := 2) hx hb dX6_copyRow_23 (by decide) ?_
  refine lv_iload_n hx hb dX6_copyRow_2 rfl (lv_at hl 0 rfl) ?_
  refine lv_aload_n hx hb dX6_copyRow_3 rfl (lv_at hl 1 rfl) ?_
  refine alen (v := 8) (fun X => aw G ad (upd (upd (upd (upd g (108 + 16 * r) (g2 (108 + 16 * r))) (110 + 16 * r) (g2 (110 + 16 * r))) (112 + 16 * r) (g2 (112 + 16 * r))) (114 + 16 * r) (g2 (114 + 16 * r))) ++ X) (Fr_r _) cx wo (by rw [aw_at G _ _ (j := 31 + r) (by omega), ac_wh G _ _ (by omega)]) (t0 := 0) rfl rfl dX6_copyRow_4 ?_
  refine lv_icmp_ge (tgt := 26) hx hb dX6_copyRow_5 (by decide) (fun h => absurd h (by decide)) (fun _ => ?_)
  refine lv_iload_n hx hb dX6_copyRow_8 rfl (lv_at hl 0 rfl) ?_
  refine lv_aload_n hx hb dX6_copyRow_9 rfl (lv_at hl 2 rfl) ?_
  refine alen (v := 8) (fun X => X ++ aw G ad2 g2) (Fr_l _) cx wo (by rw [aw_at G _ _ (j := 31 + r) (by omega), ac_wh G _ _ (by omega)]) (t0 := 0) rfl rfl dX6_copyRow_10 ?_
  refine lv_icmp_ge (tgt := 26) hx hb dX6_copyRow_11 (by decide) (fun h => absurd h (by decide)) (fun _ => ?_)
  refine lv_aload_n hx hb dX6_copyRow_14 rfl (lv_at hl 2 rfl) ?_
  refine lv_iload_n hx hb dX6_copyRow_15 rfl (lv_at hl 0 rfl) ?_
  refine lv_aload_n hx hb dX6_copyRow_16 rfl (lv_at hl 1 rfl) ?_
  refine lv_iload_n hx hb dX6_copyRow_17 rfl (lv_at hl 0 rfl) ?_
  refine ald_wh (c := r) (n := 4) (fun X => aw G ad (upd (upd (upd (upd g (108 + 16 * r) (g2 (108 + 16 * r))) (110 + 16 * r) (g2 (110 + 16 * r))) (112 + 16 * r) (g2 (112 + 16 * r))) (114 + 16 * r) (g2 (114 + 16 * r))) ++ X) (Fr_r _) cx wo (by omega) rfl (by omega) dX6_copyRow_18 ?_
  refine tope (y := g2 (116 + 16 * r)) (congrArg g2 (by omega)) ?_
  refine ast_wh (c := r) (n := 4) (fun X => X ++ aw G ad2 g2) (Fr_l _) cx wo (by omega) rfl (by omega) dX6_copyRow_19 (fun H locs gz hgz wo => ?_)
  rw [show 108 + 16 * r + 2 * 4 = 116 + 16 * r from by omega] at hgz
  subst hgz
  refine lv_iinc (v := 5) (lv' := [(2, .int 5), (0, .ref (ad2 (31 + r))), (1, .ref (ad (31 + r)))]) hx hb dX6_copyRow_20 hl (k := 0) rfl (by decide) (by decide) rfl (fun ls hl => ?_)
  refine lv_goto (tgt := 2) hx hb dX6_copyRow_23 (by decide) ?_
  refine lv_iload_n hx hb dX6_copyRow_2 rfl (lv_at hl 0 rfl) ?_
  refine lv_aload_n hx hb dX6_copyRow_3 rfl (lv_at hl 1 rfl) ?_
  refine alen (v := 8) (fun X => aw G ad (upd (upd (upd (upd (upd g (108 + 16 * r) (g2 (108 + 16 * r))) (110 + 16 * r) (g2 (110 + 16 * r))) (112 + 16 * r) (g2 (112 + 16 * r))) (114 + 16 * r) (g2 (114 + 16 * r))) (116 + 16 * r) (g2 (116 + 16 * r))) ++ X) (Fr_r _) cx wo (by rw [aw_at G _ _ (j := 31 + r) (by omega), ac_wh G _ _ (by omega)]) (t0 := 0) rfl rfl dX6_copyRow_4 ?_
  refine lv_icmp_ge (tgt := 26) hx hb dX6_copyRow_5 (by decide) (fun h => absurd h (by decide)) (fun _ => ?_)
  refine lv_iload_n hx hb dX6_copyRow_8 rfl (lv_at hl 0 rfl) ?_
  refine lv_aload_n hx hb dX6_copyRow_9 rfl (lv_at hl 2 rfl) ?_
  refine alen (v := 8) (fun X => X ++ aw G ad2 g2) (Fr_l _) cx wo (by rw [aw_at G _ _ (j := 31 + r) (by omega), ac_wh G _ _ (by omega)]) (t0 := 0) rfl rfl dX6_copyRow_10 ?_
  refine lv_icmp_ge (tgt := 26) hx hb dX6_copyRow_11 (by decide) (fun h => absurd h (by decide)) (fun _ => ?_)
  refine lv_aload_n hx hb dX6_copyRow_14 rfl (lv_at hl 2 rfl) ?_
  refine lv_iload_n hx hb dX6_copyRow_15 rfl (lv_at hl 0 rfl) ?_
  refine lv_aload_n hx hb dX6_copyRow_16 rfl (lv_at hl 1 rfl) ?_
  refine lv_iload_n hx hb dX6_copyRow_17 rfl (lv_at hl 0 rfl) ?_
  refine ald_wh (c := r) (n := 5) (fun X => aw G ad (upd (upd (upd (upd (upd g (108 + 16 * r) (g2 (108 + 16 * r))) (110 + 16 * r) (g2 (110 + 16 * r))) (112 + 16 * r) (g2 (112 + 16 * r))) (114 + 16 * r) (g2 (114 + 16 * r))) (116 + 16 * r) (g2 (116 + 16 * r))) ++ X) (Fr_r _) cx wo (by omega) rfl (by omega) dX6_copyRow_18 ?_
  refine tope (y := g2 (118 + 16 * r)) (congrArg g2 (by omega)) ?_
  refine ast_wh (c := r) (n := 5) (fun X => X ++ aw G ad2 g2) (Fr_l _) cx wo (by omega) rfl (by omega) dX6_copyRow_19 (fun H locs gz hgz wo => ?_)
  rw [show 108 + 16 * r + 2 * 5 = 118 + 16 * r from by omega] at hgz
  subst hgz
  refine lv_iinc (v := 6) (lv' := [(2, .int 6), (0, .ref (ad2 (31 + r))), (1, .ref (ad (31 + r)))]) hx hb dX6_copyRow_20 hl (k := 0) rfl (by decide) (by decide) rfl (fun ls hl => ?_)
  refine lv_goto (tgt := 2) hx hb dX6_copyRow_23 (by decide) ?_
  refine lv_iload_n hx hb dX6_copyRow_2 rfl (lv_at hl 0 rfl) ?_
  refine lv_aload_n hx hb dX6_copyRow_3 rfl (lv_at hl 1 rfl) ?_
  refine alen (v := 8) (fun X => aw G ad (upd (upd (upd (upd (upd (upd g (108 + 16 * r) (g2 (108 + 16 * r))) (110 + 16 * r) (g2 (110 + 16 * r))) (112 + 16 * r) (g2 (112 + 16 * r))) (114 + 16 * r) (g2 (114 + 16 * r))) (116 + 16 * r) (g2 (116 + 16 * r))) (118 + 16 * r) (g2 (118 + 16 * r))) ++ X) (Fr_r _) cx wo (by rw [aw_at G _ _ (j := 31 + r) (by omega), ac_wh G _ _ (by omega)]) (t0 := 0) rfl rfl dX6_copyRow_4 ?_
  refine lv_icmp_ge (tgt := 26) hx hb dX6_copyRow_5 (by decide) (fun h => absurd h (by decide)) (fun _ => ?_)
  refine lv_iload_n hx hb dX6_copyRow_8 rfl (lv_at hl 0 rfl) ?_
  refine lv_aload_n hx hb dX6_copyRow_9 rfl (lv_at hl 2 rfl) ?_
  refine alen (v := 8) (fun X => X ++ aw G ad2 g2) (Fr_l _) cx wo (by rw [aw_at G _ _ (j := 31 + r) (by omega), ac_wh G _ _ (by omega)]) (t0 := 0) rfl rfl dX6_copyRow_10 ?_
  refine lv_icmp_ge (tgt := 26) hx hb dX6_copyRow_11 (by decide) (fun h => absurd h (by decide)) (fun _ => ?_)
  refine lv_aload_n hx hb dX6_copyRow_14 rfl (lv_at hl 2 rfl) ?_
  refine lv_iload_n hx hb dX6_copyRow_15 rfl (lv_at hl 0 rfl) ?_
  refine lv_aload_n hx hb dX6_copyRow_16 rfl (lv_at hl 1 rfl) ?_
  refine lv_iload_n hx hb dX6_copyRow_17 rfl (lv_at hl 0 rfl) ?_
  refine ald_wh (c := r) (n := 6) (fun X => aw G ad (upd (upd (upd (upd (upd (upd g (108 + 16 * r) (g2 (108 + 16 * r))) (110 + 16 * r) (g2 (110 + 16 * r))) (112 + 16 * r) (g2 (112 + 16 * r))) (114 + 16 * r) (g2 (114 + 16 * r))) (116 + 16 * r) (g2 (116 + 16 * r))) (118 + 16 * r) (g2 (118 + 16 * r))) ++ X) (Fr_r _) cx wo (by omega) rfl (by omega) dX6_copyRow_18 ?_
  refine tope (y := g2 (120 + 16 * r)) (congrArg g2 (by omega)) ?_
  refine ast_wh (c := r) (n := 6) (fun X => X ++ aw G ad2 g2) (Fr_l _) cx wo (by omega) rfl (by omega) dX6_copyRow_19 (fun H locs gz hgz wo => ?_)
  rw [show 108 + 16 * r + 2 * 6 = 120 + 16 * r from by omega] at hgz
  subst hgz
  refine lv_iinc (v := 7) (lv' := [(2, .int 7), (0, .ref (ad2 (31 + r))), (1, .ref (ad (31 + r)))]) hx hb dX6_copyRow_20 hl (k := 0) rfl (by decide) (by decide) rfl (fun ls hl => ?_)
  refine lv_goto (tgt := 2) hx hb dX6_copyRow_23 (by decide) ?_
  refine lv_iload_n hx hb dX6_copyRow_2 rfl (lv_at hl 0 rfl) ?_
  refine lv_aload_n hx hb dX6_copyRow_3 rfl (lv_at hl 1 rfl) ?_
  refine alen (v := 8) (fun X => aw G ad (upd (upd (upd (upd (upd (upd (upd g (108 + 16 * r) (g2 (108 + 16 * r))) (110 + 16 * r) (g2 (110 + 16 * r))) (112 + 16 * r) (g2 (112 + 16 * r))) (114 + 16 * r) (g2 (114 + 16 * r))) (116 + 16 * r) (g2 (116 + 16 * r))) (118 + 16 * r) (g2 (118 + 16 * r))) (120 + 16 * r) (g2 (120 + 16 * r))) ++ X) (Fr_r _) cx wo (by rw [aw_at G _ _ (j := 31 + r) (by omega), ac_wh G _ _ (by omega)]) (t0 := 0) rfl rfl dX6_copyRow_4 ?_
  refine lv_icmp_ge (tgt := 26) hx hb dX6_copyRow_5 (by decide) (fun h => absurd h (by decide)) (fun _ => ?_)
  refine lv_iload_n hx hb dX6_copyRow_8 rfl (lv_at hl 0 rfl) ?_
  refine lv_aload_n hx hb dX6_copyRow_9 rfl (lv_at hl 2 rfl) ?_
  refine alen (v := 8) (fun X => X ++ aw G ad2 g2) (Fr_l _) cx wo (by rw [aw_at G _ _ (j := 31 + r) (by omega), ac_wh G _ _ (by omega)]) (t0 := 0) rfl rfl dX6_copyRow_10 ?_
  refine lv_icmp_ge (tgt := 26) hx hb dX6_copyRow_11 (by decide) (fun h => absurd h (by decide)) (fun _ => ?_)
  refine lv_aload_n hx hb dX6_copyRow_14 rfl (lv_at hl 2 rfl) ?_
  refine lv_iload_n hx hb dX6_copyRow_15 rfl (lv_at hl 0 rfl) ?_
  refine lv_aload_n hx hb dX6_copyRow_16 rfl (lv_at hl 1 rfl) ?_
  refine lv_iload_n hx hb dX6_copyRow_17 rfl (lv_at hl 0 rfl) ?_
  refine ald_wh (c := r) (n := 7) (fun X => aw G ad (upd (upd (upd (upd (upd (upd (upd g (108 + 16 * r) (g2 (108 + 16 * r))) (110 + 16 * r) (g2 (110 + 16 * r))) (112 + 16 * r) (g2 (112 + 16 * r))) (114 + 16 * r) (g2 (114 + 16 * r))) (116 + 16 * r) (g2 (116 + 16 * r))) (118 + 16 * r) (g2 (118 + 16 * r))) (120 + 16 * r) (g2 (120 + 16 * r))) ++ X) (Fr_r _) cx wo (by omega) rfl (by omega) dX6_copyRow_18 ?_
  refine tope (y := g2 (122 + 16 * r)) (congrArg g2 (by omega)) ?_
  refine ast_wh (c := r) (n := 7) (fun X => X ++ aw G ad2 g2) (Fr_l _) cx wo (by omega) rfl (by omega) dX6_copyRow_19 (fun H locs gz hgz wo => ?_)
  rw [show 108 + 16 * r + 2 * 7 = 122 + 16 * r from by omega] at hgz
  subst hgz
  refine lv_iinc (v := 8) (lv' := [(2, .int 8), (0, .ref (ad2 (31 + r))), (1, .ref (ad (31 + r)))]) hx hb dX6_copyRow_20 hl (k := 0) rfl (by decide) (by decide) rfl (fun ls hl => ?_)
  refine lv_goto (tgt := 2) hx hb dX6_copyRow_23 (by decide) ?_
  refine lv_iload_n hx hb dX6_copyRow_2 rfl (lv_at hl 0 rfl) ?_
  refine lv_aload_n hx hb dX6_copyRow_3 rfl (lv_at hl 1 rfl) ?_
  refine alen (v := 8) (fun X => aw G ad (upd (upd (upd (upd (upd (upd (upd (upd g (108 + 16 * r) (g2 (108 + 16 * r))) (110 + 16 * r) (g2 (110 + 16 * r))) (112 + 16 * r) (g2 (112 + 16 * r))) (114 + 16 * r) (g2 (114 + 16 * r))) (116 + 16 * r) (g2 (116 + 16 * r))) (118 + 16 * r) (g2 (118 + 16 * r))) (120 + 16 * r) (g2 (120 + 16 * r))) (122 + 16 * r) (g2 (122 + 16 * r))) ++ X) (Fr_r _) cx wo (by rw [aw_at G _ _ (j := 31 + r) (by omega), ac_wh G _ _ (by omega)]) (t0 := 0) rfl rfl dX6_copyRow_4 ?_
  refine lv_icmp_ge (tgt := 26) hx hb dX6_copyRow_5 (by decide) (fun _ => ?_) (fun h => absurd (show ¬ _ from h) (by decide))
  exact r2_v cx hQ wo dX6_copyRow_26 (by subst hM; exact ⟨rfl, rfl⟩)
theorem m_X6_copyRow_wh_at (g g2 : St) (r i : Nat) : m_X6_copyRow_wh g g2 r i = if 108 + 16 * r ≤ i ∧ i < 124 + 16 * r ∧ i % 2 = 0 then g2 i else g i := by
  unfold m_X6_copyRow_wh
  by_cases h : 108 + 16 * r ≤ i ∧ i < 124 + 16 * r ∧ i % 2 = 0
  · rw [if_pos h]
    obtain rfl | rfl | rfl | rfl | rfl | rfl | rfl | rfl : i = 108 + 16 * r ∨ i = 110 + 16 * r ∨ i = 112 + 16 * r ∨ i = 114 + 16 * r ∨ i = 116 + 16 * r ∨ i = 118 + 16 * r ∨ i = 120 + 16 * r ∨ i = 122 + 16 * r := by omega
    all_goals simp (disch := omega) only [pk_un, pk_us]
  · rw [if_neg h]
    simp (disch := omega) only [pk_un]
abbrev rm_X6_copyRow_tg : Room := { frames := 0, cells := 0, slots := 0, locals := 0 }
def m_X6_copyRow_tg (g g2 : St) (r : Nat) : St :=
  (upd (upd (upd (upd (upd (upd (upd (upd g (109 + 16 * r) (g2 (109 + 16 * r))) (111 + 16 * r) (g2 (111 + 16 * r))) (113 + 16 * r) (g2 (113 + 16 * r))) (115 + 16 * r) (g2 (115 + 16 * r))) (117 + 16 * r) (g2 (117 + 16 * r))) (119 + 16 * r) (g2 (119 + 16 * r))) (121 + 16 * r) (g2 (121 + 16 * r))) (123 + 16 * r) (g2 (123 + 16 * r)))
set_option maxHeartbeats 4000000 in
set_option maxRecDepth 100000 in
theorem c_X6_copyRow_tg (l : Launch) (G : GG) (ad ad2 : Nat → Nat) (g g2 : St) {r : Nat} (hr : r < 2) : Ct l G yX6_copyRow cX6_copyRow 3 (none : Option Jvm.ClassFile.FieldType) rm_X6_copyRow_tg [.ref (ad2 (33 + r)), .ref (ad (33 + r))] (aw G ad g ++ aw G ad2 g2) (fun rv W1 => rv = none ∧ W1 = aw G ad (m_X6_copyRow_tg g g2 r) ++ aw G ad2 g2) := by
  refine Ct.mk2 (by decide) (Nat.le_of_ble_eq_true rfl) ?_
  intro p e s m args below meth c A H locs ls Q cx wo hl hQ
  obtain ⟨hx, hb, hml, hr, hlo, hown, hts, hnm, kn, hA⟩ := id cx
  have hl : lv_has ls 3 [(0, .ref (ad2 (33 + r))), (1, .ref (ad (33 + r)))] := hl
  generalize hM : m_X6_copyRow_tg g g2 r = M at hQ
  unfold m_X6_copyRow_tg at hM
  refine lv_iconst (v := 0) hx hb dX6_copyRow_0 (by decide) ?_
  refine lv_istore_n (lv' := [(2, .int 0), (0, .ref (ad2 (33 + r))), (1, .ref (ad (33 + r)))]) hx hb dX6_copyRow_1 rfl hl (by decide) rfl (fun ls hl => ?_)
  refine lv_iload_n hx hb dX6_copyRow_2 rfl (lv_at hl 0 rfl) ?_
  refine lv_aload_n hx hb dX6_copyRow_3 rfl (lv_at hl 1 rfl) ?_
  refine alen (v := 8) (fun X => aw G ad g ++ X) (Fr_r _) cx wo (by rw [aw_at G _ _ (j := 33 + r) (by omega), ac_tg G _ _ (by omega)]) (t0 := 0) rfl rfl dX6_copyRow_4 ?_
  refine lv_icmp_ge (tgt := 26) hx hb dX6_copyRow_5 (by decide) (fun h => absurd h (by decide)) (fun _ => ?_)
  refine lv_iload_n hx hb dX6_copyRow_8 rfl (lv_at hl 0 rfl) ?_
  refine lv_aload_n hx hb dX6_copyRow_9 rfl (lv_at hl 2 rfl) ?_
  refine alen (v := 8) (fun X => X ++ aw G ad2 g2) (Fr_l _) cx wo (by rw [aw_at G _ _ (j := 33 + r) (by omega), ac_tg G _ _ (by omega)]) (t0 := 0) rfl rfl dX6_copyRow_10 ?_
  refine lv_icmp_ge (tgt := 26) hx hb dX6_copyRow_11 (by decide) (fun h => absurd h (by decide)) (fun _ => ?_)
  refine lv_aload_n hx hb dX6_copyRow_14 rfl (lv_at hl 2 rfl) ?_
  refine lv_iload_n hx hb dX6_copyRow_15 rfl (lv_at hl 0 rfl) ?_
  refine lv_aload_n hx hb dX6_copyRow_16 rfl (lv_at hl 1 rfl) ?_
  refine lv_iload_n hx hb dX6_copyRow_17 rfl (lv_at hl 0 rfl) ?_
  refine ald_tg (c := r) (n := 0) (fun X => aw G ad g ++ X) (Fr_r _) cx wo (by omega) rfl (by omega) dX6_copyRow_18 ?_
  refine tope (y := g2 (109 + 16 * r)) (congrArg g2 (by omega)) ?_
  refine ast_tg (c := r) (n := 0) (fun X => X ++ aw G ad2 g2) (Fr_l _) cx wo (by omega) rfl (by omega) dX6_copyRow_19 (fun H locs gz hgz wo => ?_)
  rw [show 108 + 16 * r + 2 * 0 + 1 = 109 + 16 * r from by omega] at hgz
  subst hgz
  refine lv_iinc (v := 1) (lv' := [(2, .int 1), (0, .ref (ad2 (33 + r))), (1, .ref (ad (33 + r)))]) hx hb dX6_copyRow_20 hl (k := 0) rfl (by decide) (by decide) rfl (fun ls hl => ?_)
  refine lv_goto (tgt := 2) hx hb dX6_copyRow_23 (by decide) ?_
  refine lv_iload_n hx hb dX6_copyRow_2 rfl (lv_at hl 0 rfl) ?_
  refine lv_aload_n hx hb dX6_copyRow_3 rfl (lv_at hl 1 rfl) ?_
  refine alen (v := 8) (fun X => aw G ad (upd g (109 + 16 * r) (g2 (109 + 16 * r))) ++ X) (Fr_r _) cx wo (by rw [aw_at G _ _ (j := 33 + r) (by omega), ac_tg G _ _ (by omega)]) (t0 := 0) rfl rfl dX6_copyRow_4 ?_
  refine lv_icmp_ge (tgt := 26) hx hb dX6_copyRow_5 (by decide) (fun h => absurd h (by decide)) (fun _ => ?_)
  refine lv_iload_n hx hb dX6_copyRow_8 rfl (lv_at hl 0 rfl) ?_
  refine lv_aload_n hx hb dX6_copyRow_9 rfl (lv_at hl 2 rfl) ?_
  refine alen (v := 8) (fun X => X ++ aw G ad2 g2) (Fr_l _) cx wo (by rw [aw_at G _ _ (j := 33 + r) (by omega), ac_tg G _ _ (by omega)]) (t0 := 0) rfl rfl dX6_copyRow_10 ?_
  refine lv_icmp_ge (tgt := 26) hx hb dX6_copyRow_11 (by decide) (fun h => absurd h (by decide)) (fun _ => ?_)
  refine lv_aload_n hx hb dX6_copyRow_14 rfl (lv_at hl 2 rfl) ?_
  refine lv_iload_n hx hb dX6_copyRow_15 rfl (lv_at hl 0 rfl) ?_
  refine lv_aload_n hx hb dX6_copyRow_16 rfl (lv_at hl 1 rfl) ?_
  refine lv_iload_n hx hb dX6_copyRow_17 rfl (lv_at hl 0 rfl) ?_
  refine ald_tg (c := r) (n := 1) (fun X => aw G ad (upd g (109 + 16 * r) (g2 (109 + 16 * r))) ++ X) (Fr_r _) cx wo (by omega) rfl (by omega) dX6_copyRow_18 ?_
  refine tope (y := g2 (111 + 16 * r)) (congrArg g2 (by omega)) ?_
  refine ast_tg (c := r) (n := 1) (fun X => X ++ aw G ad2 g2) (Fr_l _) cx wo (by omega) rfl (by omega) dX6_copyRow_19 (fun H locs gz hgz wo => ?_)
  rw [show 108 + 16 * r + 2 * 1 + 1 = 111 + 16 * r from by omega] at hgz
  subst hgz
  refine lv_iinc (v := 2) (lv' := [(2, .int 2), (0, .ref (ad2 (33 + r))), (1, .ref (ad (33 + r)))]) hx hb dX6_copyRow_20 hl (k := 0) rfl (by decide) (by decide) rfl (fun ls hl => ?_)
  refine lv_goto (tgt := 2) hx hb dX6_copyRow_23 (by decide) ?_
  refine lv_iload_n hx hb dX6_copyRow_2 rfl (lv_at hl 0 rfl) ?_
  refine lv_aload_n hx hb dX6_copyRow_3 rfl (lv_at hl 1 rfl) ?_
  refine alen (v := 8) (fun X => aw G ad (upd (upd g (109 + 16 * r) (g2 (109 + 16 * r))) (111 + 16 * r) (g2 (111 + 16 * r))) ++ X) (Fr_r _) cx wo (by rw [aw_at G _ _ (j := 33 + r) (by omega), ac_tg G _ _ (by omega)]) (t0 := 0) rfl rfl dX6_copyRow_4 ?_
  refine lv_icmp_ge (tgt := 26) hx hb dX6_copyRow_5 (by decide) (fun h => absurd h (by decide)) (fun _ => ?_)
  refine lv_iload_n hx hb dX6_copyRow_8 rfl (lv_at hl 0 rfl) ?_
  refine lv_aload_n hx hb dX6_copyRow_9 rfl (lv_at hl 2 rfl) ?_
  refine alen (v := 8) (fun X => X ++ aw G ad2 g2) (Fr_l _) cx wo (by rw [aw_at G _ _ (j := 33 + r) (by omega), ac_tg G _ _ (by omega)]) (t0 := 0) rfl rfl dX6_copyRow_10 ?_
  refine lv_icmp_ge (tgt := 26) hx hb dX6_copyRow_11 (by decide) (fun h => absurd h (by decide)) (fun _ => ?_)
  refine lv_aload_n hx hb dX6_copyRow_14 rfl (lv_at hl 2 rfl) ?_
  refine lv_iload_n hx hb dX6_copyRow_15 rfl (lv_at hl 0 rfl) ?_
  refine lv_aload_n hx hb dX6_copyRow_16 rfl (lv_at hl 1 rfl) ?_
  refine lv_iload_n hx hb dX6_copyRow_17 rfl (lv_at hl 0 rfl) ?_
  refine ald_tg (c := r) (n := 2) (fun X => aw G ad (upd (upd g (109 + 16 * r) (g2 (109 + 16 * r))) (111 + 16 * r) (g2 (111 + 16 * r))) ++ X) (Fr_r _) cx wo (by omega) rfl (by omega) dX6_copyRow_18 ?_
  refine tope (y := g2 (113 + 16 * r)) (congrArg g2 (by omega)) ?_
  refine ast_tg (c := r) (n := 2) (fun X => X ++ aw G ad2 g2) (Fr_l _) cx wo (by omega) rfl (by omega) dX6_copyRow_19 (fun H locs gz hgz wo => ?_)
  rw [show 108 + 16 * r + 2 * 2 + 1 = 113 + 16 * r from by omega] at hgz
  subst hgz
  refine lv_iinc (v := 3) (lv' := [(2, .int 3), (0, .ref (ad2 (33 + r))), (1, .ref (ad (33 + r)))]) hx hb dX6_copyRow_20 hl (k := 0) rfl (by decide) (by decide) rfl (fun ls hl => ?_)
  refine lv_goto (tgt := 2) hx hb dX6_copyRow_23 (by decide) ?_
  refine lv_iload_n hx hb dX6_copyRow_2 rfl (lv_at hl 0 rfl) ?_
  refine lv_aload_n hx hb dX6_copyRow_3 rfl (lv_at hl 1 rfl) ?_
  refine alen (v := 8) (fun X => aw G ad (upd (upd (upd g (109 + 16 * r) (g2 (109 + 16 * r))) (111 + 16 * r) (g2 (111 + 16 * r))) (113 + 16 * r) (g2 (113 + 16 * r))) ++ X) (Fr_r _) cx wo (by rw [aw_at G _ _ (j := 33 + r) (by omega), ac_tg G _ _ (by omega)]) (t0 := 0) rfl rfl dX6_copyRow_4 ?_
  refine lv_icmp_ge (tgt := 26) hx hb dX6_copyRow_5 (by decide) (fun h => absurd h (by decide)) (fun _ => ?_)
  refine lv_iload_n hx hb dX6_copyRow_8 rfl (lv_at hl 0 rfl) ?_
  refine lv_aload_n hx hb dX6_copyRow_9 rfl (lv_at hl 2 rfl) ?_
  refine alen (v := 8) (fun X => X ++ aw G ad2 g2) (Fr_l _) cx wo (by rw [aw_at G _ _ (j := 33 + r) (by omega), ac_tg G _ _ (by omega)]) (t0 := 0) rfl rfl dX6_copyRow_10 ?_
  refine lv_icmp_ge (tgt := 26) hx hb dX6_copyRow_11 (by decide) (fun h => absurd h (by decide)) (fun _ => ?_)
  refine lv_aload_n hx hb dX6_copyRow_14 rfl (lv_at hl 2 rfl) ?_
  refine lv_iload_n hx hb dX6_copyRow_15 rfl (lv_at hl 0 rfl) ?_
  refine lv_aload_n hx hb dX6_copyRow_16 rfl (lv_at hl 1 rfl) ?_
  refine lv_iload_n hx hb dX6_copyRow_17 rfl (lv_at hl 0 rfl) ?_
  refine ald_tg (c := r) (n := 3) (fun X => aw G ad (upd (upd (upd g (109 + 16 * r) (g2 (109 + 16 * r))) (111 + 16 * r) (g2 (111 + 16 * r))) (113 + 16 * r) (g2 (113 + 16 * r))) ++ X) (Fr_r _) cx wo (by omega) rfl (by omega) dX6_copyRow_18 ?_
  refine tope (y := g2 (115 + 16 * r)) (congrArg g2 (by omega)) ?_
  refine ast_tg (c := r) (n := 3) (fun X => X ++ aw G ad2 g2) (Fr_l _) cx wo (by omega) rfl (by omega) dX6_copyRow_19 (fun H locs gz hgz wo => ?_)
  rw [show 108 + 16 * r + 2 * 3 + 1 = 115 + 16 * r from by omega] at hgz
  subst hgz
  refine lv_iinc (v := 4) (lv' := [(2, .int 4), (0, .ref (ad2 (33 + r))), (1, .ref (ad (33 + r)))]) hx hb dX6_copyRow_20 hl (k := 0) rfl (by decide) (by decide) rfl (fun ls hl => ?_)
  refine lv_goto (tgt := 2) hx hb dX6_copyRow_23 (by decide) ?_
  refine lv_iload_n hx hb dX6_copyRow_2 rfl (lv_at hl 0 rfl) ?_
  refine lv_aload_n hx hb dX6_copyRow_3 rfl (lv_at hl 1 rfl) ?_
  refine alen (v := 8) (fun X => aw G ad (upd (upd (upd (upd g (109 + 16 * r) (g2 (109 + 16 * r))) (111 + 16 * r) (g2 (111 + 16 * r))) (113 + 16 * r) (g2 (113 + 16 * r))) (115 + 16 * r) (g2 (115 + 16 * r))) ++ X) (Fr_r _) cx wo (by rw [aw_at G _ _ (j := 33 + r) (by omega), ac_tg G _ _ (by omega)]) (t0 := 0) rfl rfl dX6_copyRow_4 ?_
  refine lv_icmp_ge (tgt := 26) hx hb dX6_copyRow_5 (by decide) (fun h => absurd h (by decide)) (fun _ => ?_)
  refine lv_iload_n hx hb dX6_copyRow_8 rfl (lv_at hl 0 rfl) ?_
  refine lv_aload_n hx hb dX6_copyRow_9 rfl (lv_at hl 2 rfl) ?_
  refine alen (v := 8) (fun X => X ++ aw G ad2 g2) (Fr_l _) cx wo (by rw [aw_at G _ _ (j := 33 + r) (by omega), ac_tg G _ _ (by omega)]) (t0 := 0) rfl rfl dX6_copyRow_10 ?_
  refine lv_icmp_ge (tgt := 26) hx hb dX6_copyRow_11 (by decide) (fun h => absurd h (by decide)) (fun _ => ?_)
  refine lv_aload_n hx hb dX6_copyRow_14 rfl (lv_at hl 2 rfl) ?_
  refine lv_iload_n hx hb dX6_copyRow_15 rfl (lv_at hl 0 rfl) ?_
  refine lv_aload_n hx hb dX6_copyRow_16 rfl (lv_at hl 1 rfl) ?_
  refine lv_iload_n hx hb dX6_copyRow_17 rfl (lv_at hl 0 rfl) ?_
  refine ald_tg (c := r) (n := 4) (fun X => aw G ad (upd (upd (upd (upd g (109 + 16 * r) (g2 (109 + 16 * r))) (111 + 16 * r) (g2 (111 + 16 * r))) (113 + 16 * r) (g2 (113 + 16 * r))) (115 + 16 * r) (g2 (115 + 16 * r))) ++ X) (Fr_r _) cx wo (by omega) rfl (by omega) dX6_copyRow_18 ?_
  refine tope (y := g2 (117 + 16 * r)) (congrArg g2 (by omega)) ?_
  refine ast_tg (c := r) (n := 4) (fun X => X ++ aw G ad2 g2) (Fr_l _) cx wo (by omega) rfl (by omega) dX6_copyRow_19 (fun H locs gz hgz wo => ?_)
  rw [show 108 + 16 * r + 2 * 4 + 1 = 117 + 16 * r from by omega] at hgz
  subst hgz
  refine lv_iinc (v := 5) (lv' := [(2, .int 5), (0, .ref (ad2 (33 + r))), (1, .ref (ad (33 + r)))]) hx hb dX6_copyRow_20 hl (k := 0) rfl (by decide) (by decide) rfl (fun ls hl => ?_)
  refine lv_goto (tgt := 2) hx hb dX6_copyRow_23 (by decide) ?_
  refine lv_iload_n hx hb dX6_copyRow_2 rfl (lv_at hl 0 rfl) ?_
  refine lv_aload_n hx hb dX6_copyRow_3 rfl (lv_at hl 1 rfl) ?_
  refine alen (v := 8) (fun X => aw G ad (upd (upd (upd (upd (upd g (109 + 16 * r) (g2 (109 + 16 * r))) (111 + 16 * r) (g2 (111 + 16 * r))) (113 + 16 * r) (g2 (113 + 16 * r))) (115 + 16 * r) (g2 (115 + 16 * r))) (117 + 16 * r) (g2 (117 + 16 * r))) ++ X) (Fr_r _) cx wo (by rw [aw_at G _ _ (j := 33 + r) (by omega), ac_tg G _ _ (by omega)]) (t0 := 0) rfl rfl dX6_copyRow_4 ?_
  refine lv_icmp_ge (tgt := 26) hx hb dX6_copyRow_5 (by decide) (fun h => absurd h (by decide)) (fun _ => ?_)
  refine lv_iload_n hx hb dX6_copyRow_8 rfl (lv_at hl 0 rfl) ?_
  refine lv_aload_n hx hb dX6_copyRow_9 rfl (lv_at hl 2 rfl) ?_
  refine alen (v := 8) (fun X => X ++ aw G ad2 g2) (Fr_l _) cx wo (by rw [aw_at G _ _ (j := 33 + r) (by omega), ac_tg G _ _ (by omega)]) (t0 := 0) rfl rfl dX6_copyRow_10 ?_
  refine lv_icmp_ge (tgt := 26) hx hb dX6_copyRow_11 (by decide) (fun h => absurd h (by decide)) (fun _ => ?_)
  refine lv_aload_n hx hb dX6_copyRow_14 rfl (lv_at hl 2 rfl) ?_
  refine lv_iload_n hx hb dX6_copyRow_15 rfl (lv_at hl 0 rfl) ?_
  refine lv_aload_n hx hb dX6_copyRow_16 rfl (lv_at hl 1 rfl) ?_
  refine lv_iload_n hx hb dX6_copyRow_17 rfl (lv_at hl 0 rfl) ?_
  refine ald_tg (c := r) (n := 5) (fun X => aw G ad (upd (upd (upd (upd (upd g (109 + 16 * r) (g2 (109 + 16 * r))) (111 + 16 * r) (g2 (111 + 16 * r))) (113 + 16 * r) (g2 (113 + 16 * r))) (115 + 16 * r) (g2 (115 + 16 * r))) (117 + 16 * r) (g2 (117 + 16 * r))) ++ X) (Fr_r _) cx wo (by omega) rfl (by omega) dX6_copyRow_18 ?_
  refine tope (y := g2 (119 + 16 * r)) (congrArg g2 (by omega)) ?_
  refine ast_tg (c := r) (n := 5) (fun X => X ++ aw G ad2 g2) (Fr_l _) cx wo (by omega) rfl (by omega) dX6_copyRow_19 (fun H locs gz hgz wo => ?_)
  rw [show 108 + 16 * r + 2 * 5 + 1 = 119 + 16 * r from by omega] at hgz
  subst hgz
  refine lv_iinc (v := 6) (lv' := [(2, .int 6), (0, .ref (ad2 (33 + r))), (1, .ref (ad (33 + r)))]) hx hb dX6_copyRow_20 hl (k := 0) rfl (by decide) (by decide) rfl (fun ls hl => ?_)
  refine lv_goto (tgt := 2) hx hb dX6_copyRow_23 (by decide) ?_
  refine lv_iload_n hx hb dX6_copyRow_2 rfl (lv_at hl 0 rfl) ?_
  refine lv_aload_n hx hb dX6_copyRow_3 rfl (lv_at hl 1 rfl) ?_
  refine alen (v := 8) (fun X => aw G ad (upd (upd (upd (upd (upd (upd g (109 + 16 * r) (g2 (109 + 16 * r))) (111 + 16 * r) (g2 (111 + 16 * r))) (113 + 16 * r) (g2 (113 + 16 * r))) (115 + 16 * r) (g2 (115 + 16 * r))) (117 + 16 * r) (g2 (117 + 16 * r))) (119 + 16 * r) (g2 (119 + 16 * r))) ++ X) (Fr_r _) cx wo (by rw [aw_at G _ _ (j := 33 + r) (by omega), ac_tg G _ _ (by omega)]) (t0 := 0) rfl rfl dX6_copyRow_4 ?_
  refine lv_icmp_ge (tgt := 26) hx hb dX6_copyRow_5 (by decide) (fun h => absurd h (by decide)) (fun _ => ?_)
  refine lv_iload_n hx hb dX6_copyRow_8 rfl (lv_at hl 0 rfl) ?_
  refine lv_aload_n hx hb dX6_copyRow_9 rfl (lv_at hl 2 rfl) ?_
  refine alen (v := 8) (fun X => X ++ aw G ad2 g2) (Fr_l _) cx wo (by rw [aw_at G _ _ (j := 33 + r) (by omega), ac_tg G _ _ (by omega)]) (t0 := 0) rfl rfl dX6_copyRow_10 ?_
  refine lv_icmp_ge (tgt := 26) hx hb dX6_copyRow_11 (by decide) (fun h => absurd h (by decide)) (fun _ => ?_)
  refine lv_aload_n hx hb dX6_copyRow_14 rfl (lv_at hl 2 rfl) ?_
  refine lv_iload_n hx hb dX6_copyRow_15 rfl (lv_at hl 0 rfl) ?_
  refine lv_aload_n hx hb dX6_copyRow_16 rfl (lv_at hl 1 rfl) ?_
  refine lv_iload_n hx hb dX6_copyRow_17 rfl (lv_at hl 0 rfl) ?_
  refine ald_tg (c := r) (n := 6) (fun X => aw G ad (upd (upd (upd (upd (upd (upd g (109 + 16 * r) (g2 (109 + 16 * r))) (111 + 16 * r) (g2 (111 + 16 * r))) (113 + 16 * r) (g2 (113 + 16 * r))) (115 + 16 * r) (g2 (115 + 16 * r))) (117 + 16 * r) (g2 (117 + 16 * r))) (119 + 16 * r) (g2 (119 + 16 * r))) ++ X) (Fr_r _) cx wo (by omega) rfl (by omega) dX6_copyRow_18 ?_
  refine tope (y := g2 (121 + 16 * r)) (congrArg g2 (by omega)) ?_
  refine ast_tg (c := r) (n := 6) (fun X => X ++ aw G ad2 g2) (Fr_l _) cx wo (by omega) rfl (by omega) dX6_copyRow_19 (fun H locs gz hgz wo => ?_)
  rw [show 108 + 16 * r + 2 * 6 + 1 = 121 + 16 * r from by omega] at hgz
  subst hgz
  refine lv_iinc (v := 7) (lv' := [(2, .int 7), (0, .ref (ad2 (33 + r))), (1, .ref (ad (33 + r)))]) hx hb dX6_copyRow_20 hl (k := 0) rfl (by decide) (by decide) rfl (fun ls hl => ?_)
  refine lv_goto (tgt := 2) hx hb dX6_copyRow_23 (by decide) ?_
  refine lv_iload_n hx hb dX6_copyRow_2 rfl (lv_at hl 0 rfl) ?_
  refine lv_aload_n hx hb dX6_copyRow_3 rfl (lv_at hl 1 rfl) ?_
  refine alen (v := 8) (fun X => aw G ad (upd (upd (upd (upd (upd (upd (upd g (109 + 16 * r) (g2 (109 + 16 * r))) (111 + 16 * r) (g2 (111 + 16 * r))) (113 + 16 * r) (g2 (113 + 16 * r))) (115 + 16 * r) (g2 (115 + 16 * r))) (117 + 16 * r) (g2 (117 + 16 * r))) (119 + 16 * r) (g2 (119 + 16 * r))) (121 + 16 * r) (g2 (121 + 16 * r))) ++ X) (Fr_r _) cx wo (by rw [aw_at G _ _ (j := 33 + r) (by omega), ac_tg G _ _ (by omega)]) (t0 := 0) rfl rfl dX6_copyRow_4 ?_
  refine lv_icmp_ge (tgt := 26) hx hb dX6_copyRow_5 (by decide) (fun h => absurd h (by decide)) (fun _ => ?_)
  refine lv_iload_n hx hb dX6_copyRow_8 rfl (lv_at hl 0 rfl) ?_
  refine lv_aload_n hx hb dX6_copyRow_9 rfl (lv_at hl 2 rfl) ?_
  refine alen (v := 8) (fun X => X ++ aw G ad2 g2) (Fr_l _) cx wo (by rw [aw_at G _ _ (j := 33 + r) (by omega), ac_tg G _ _ (by omega)]) (t0 := 0) rfl rfl dX6_copyRow_10 ?_
  refine lv_icmp_ge (tgt := 26) hx hb dX6_copyRow_11 (by decide) (fun h => absurd h (by decide)) (fun _ => ?_)
  refine lv_aload_n hx hb dX6_copyRow_14 rfl (lv_at hl 2 rfl) ?_
  refine lv_iload_n hx hb dX6_copyRow_15 rfl (lv_at hl 0 rfl) ?_
  refine lv_aload_n hx hb dX6_copyRow_16 rfl (lv_at hl 1 rfl) ?_
  refine lv_iload_n hx hb dX6_copyRow_17 rfl (lv_at hl 0 rfl) ?_
  refine ald_tg (c := r) (n := 7) (fun X => aw G ad (upd (upd (upd (upd (upd (upd (upd g (109 + 16 * r) (g2 (109 + 16 * r))) (111 + 16 * r) (g2 (111 + 16 * r))) (113 + 16 * r) (g2 (113 + 16 * r))) (115 + 16 * r) (g2 (115 + 16 * r))) (117 + 16 * r) (g2 (117 + 16 * r))) (119 + 16 * r) (g2 (119 + 16 * r))) (121 + 16 * r) (g2 (121 + 16 * r))) ++ X) (Fr_r _) cx wo (by omega) rfl (by omega) dX6_copyRow_18 ?_
  refine tope (y := g2 (123 + 16 * r)) (congrArg g2 (by omega)) ?_
  refine ast_tg (c := r) (n := 7) (fun X => X ++ aw G ad2 g2) (Fr_l _) cx wo (by omega) rfl (by omega) dX6_copyRow_19 (fun H locs gz hgz wo => ?_)
  rw [show 108 + 16 * r + 2 * 7 + 1 = 123 + 16 * r from by omega] at hgz
  subst hgz
  refine lv_iinc (v := 8) (lv' := [(2, .int 8), (0, .ref (ad2 (33 + r))), (1, .ref (ad (33 + r)))]) hx hb dX6_copyRow_20 hl (k := 0) rfl (by decide) (by decide) rfl (fun ls hl => ?_)
  refine lv_goto (tgt := 2) hx hb dX6_copyRow_23 (by decide) ?_
  refine lv_iload_n hx hb dX6_copyRow_2 rfl (lv_at hl 0 rfl) ?_
  refine lv_aload_n hx hb dX6_copyRow_3 rfl (lv_at hl 1 rfl) ?_
  refine alen (v := 8) (fun X => aw G ad (upd (upd (upd (upd (upd (upd (upd (upd g (109 + 16 * r) (g2 (109 + 16 * r))) (111 + 16 * r) (g2 (111 + 16 * r))) (113 + 16 * r) (g2 (113 + 16 * r))) (115 + 16 * r) (g2 (115 + 16 * r))) (117 + 16 * r) (g2 (117 + 16 * r))) (119 + 16 * r) (g2 (119 + 16 * r))) (121 + 16 * r) (g2 (121 + 16 * r))) (123 + 16 * r) (g2 (123 + 16 * r))) ++ X) (Fr_r _) cx wo (by rw [aw_at G _ _ (j := 33 + r) (by omega), ac_tg G _ _ (by omega)]) (t0 := 0) rfl rfl dX6_copyRow_4 ?_
  refine lv_icmp_ge (tgt := 26) hx hb dX6_copyRow_5 (by decide) (fun _ => ?_) (fun h => absurd (show ¬ _ from h) (by decide))
  exact r2_v cx hQ wo dX6_copyRow_26 (by subst hM; exact ⟨rfl, rfl⟩)
theorem m_X6_copyRow_tg_at (g g2 : St) (r i : Nat) : m_X6_copyRow_tg g g2 r i = if 108 + 16 * r ≤ i ∧ i < 124 + 16 * r ∧ i % 2 = 1 then g2 i else g i := by
  unfold m_X6_copyRow_tg
  by_cases h : 108 + 16 * r ≤ i ∧ i < 124 + 16 * r ∧ i % 2 = 1
  · rw [if_pos h]
    obtain rfl | rfl | rfl | rfl | rfl | rfl | rfl | rfl : i = 109 + 16 * r ∨ i = 111 + 16 * r ∨ i = 113 + 16 * r ∨ i = 115 + 16 * r ∨ i = 117 + 16 * r ∨ i = 119 + 16 * r ∨ i = 121 + 16 * r ∨ i = 123 + 16 * r := by omega
    all_goals simp (disch := omega) only [pk_un, pk_us]
  · rw [if_neg h]
    simp (disch := omega) only [pk_un]
abbrev rm_X2_copyFrom : Room := { frames := 1, cells := 0, slots := 0, locals := 22 }
def m_X2_copyFrom (g g2 : St) (r : Nat) : St :=
  (upd (upd (upd (m_X6_copyRow_tg (m_X6_copyRow_wh g g2 r) g2 r) (100 + r) (g2 (100 + r))) (104 + r) (g2 (104 + r))) (106 + r) (g2 (106 + r)))
set_option maxHeartbeats 4000000 in
set_option maxRecDepth 100000 in
theorem c_X2_copyFrom (l : Launch) (G : GG) (ad ad2 : Nat → Nat) (g g2 : St) {r : Nat} (hr : r < 2) : Ct l G yX2_copyFrom cX2_copyFrom 2 (none : Option Jvm.ClassFile.FieldType) rm_X2_copyFrom [.ref (ad (26 + r)), .ref (ad2 (26 + r))] (aw G ad g ++ aw G ad2 g2) (fun rv W1 => rv = none ∧ W1 = aw G ad (m_X2_copyFrom g g2 r) ++ aw G ad2 g2) := by
  refine Ct.mk2 (by decide) (Nat.le_of_ble_eq_true rfl) ?_
  intro p e s m args below meth c A H locs ls Q cx wo hl hQ
  obtain ⟨hx, hb, hml, hr, hlo, hown, hts, hnm, kn, hA⟩ := id cx
  have hl : lv_has ls 2 [(0, .ref (ad (26 + r))), (1, .ref (ad2 (26 + r)))] := hl
  generalize hM : m_X2_copyFrom g g2 r = M at hQ
  unfold m_X2_copyFrom at hM
  refine lv_aload_n hx hb dX2_copyFrom_0 rfl (lv_at hl 1 rfl) ?_
  refine gf_crane_whats (r := r) (fun X => aw G ad g ++ X) (Fr_r _) cx wo (by omega) m_104 dX2_copyFrom_1 ?_
  refine topv (y := .ref (ad2 (31 + r))) (congrArg (fun z => Value.ref (ad2 z)) (by omega)) ?_
  refine lv_aload_n hx hb dX2_copyFrom_4 rfl (lv_at hl 0 rfl) ?_
  refine gf_crane_whats (r := r) (fun X => X ++ aw G ad2 g2) (Fr_l _) cx wo (by omega) m_104 dX2_copyFrom_5 ?_
  refine topv (y := .ref (ad (31 + r))) (congrArg (fun z => Value.ref (ad z)) (by omega)) ?_
  refine call_SN (host := "HotAisle") (As := [.ref (ad2 (31 + r)), .ref (ad (31 + r))]) (rest := []) (fun X => X) Fr_id cx (c_X6_copyRow_wh l G ad ad2 _ _ (r := r) (by omega)) fx_X6_copyRow (by decide) m_614 ⟨by decide, by decide⟩ wo rfl hl.1 rfl (Nat.le_of_ble_eq_true rfl) dX2_copyFrom_8 ⟨by decide, by decide⟩ (fun v W1 H locs hp wo => ?_)
  obtain ⟨rfl, rfl⟩ := hp
  refine nrm_v ?_
  refine lv_aload_n hx hb dX2_copyFrom_11 rfl (lv_at hl 1 rfl) ?_
  refine gf_crane_targets (r := r) (fun X => aw G ad (m_X6_copyRow_wh g g2 r) ++ X) (Fr_r _) cx wo (by omega) m_105 dX2_copyFrom_12 ?_
  refine topv (y := .ref (ad2 (33 + r))) (congrArg (fun z => Value.ref (ad2 z)) (by omega)) ?_
  refine lv_aload_n hx hb dX2_copyFrom_15 rfl (lv_at hl 0 rfl) ?_
  refine gf_crane_targets (r := r) (fun X => X ++ aw G ad2 g2) (Fr_l _) cx wo (by omega) m_105 dX2_copyFrom_16 ?_
  refine topv (y := .ref (ad (33 + r))) (congrArg (fun z => Value.ref (ad z)) (by omega)) ?_
  refine call_SN (host := "HotAisle") (As := [.ref (ad2 (33 + r)), .ref (ad (33 + r))]) (rest := []) (fun X => X) Fr_id cx (c_X6_copyRow_tg l G ad ad2 _ _ (r := r) (by omega)) fx_X6_copyRow (by decide) m_614 ⟨by decide, by decide⟩ wo rfl hl.1 rfl (Nat.le_of_ble_eq_true rfl) dX2_copyFrom_19 ⟨by decide, by decide⟩ (fun v W1 H locs hp wo => ?_)
  obtain ⟨rfl, rfl⟩ := hp
  refine nrm_v ?_
  refine lv_aload_n hx hb dX2_copyFrom_22 rfl (lv_at hl 0 rfl) ?_
  refine lv_aload_n hx hb dX2_copyFrom_23 rfl (lv_at hl 1 rfl) ?_
  refine gf_crane_place (r := r) (fun X => aw G ad (m_X6_copyRow_tg (m_X6_copyRow_wh g g2 r) g2 r) ++ X) (Fr_r _) cx wo (by omega) m_106 dX2_copyFrom_24 ?_
  refine pf_crane_place (r := r) (fun X => X ++ aw G ad2 g2) (Fr_l _) cx wo (by omega) m_106 dX2_copyFrom_27 (fun H locs gz hgz wo => ?_)
  subst hgz
  refine lv_aload_n hx hb dX2_copyFrom_30 rfl (lv_at hl 0 rfl) ?_
  refine lv_aload_n hx hb dX2_copyFrom_31 rfl (lv_at hl 1 rfl) ?_
  refine gf_crane_orders (r := r) (fun X => aw G ad (upd (m_X6_copyRow_tg (m_X6_copyRow_wh g g2 r) g2 r) (100 + r) (g2 (100 + r))) ++ X) (Fr_r _) cx wo (by omega) m_108 dX2_copyFrom_32 ?_
  refine pf_crane_orders (r := r) (fun X => X ++ aw G ad2 g2) (Fr_l _) cx wo (by omega) m_108 dX2_copyFrom_35 (fun H locs gz hgz wo => ?_)
  subst hgz
  refine lv_aload_n hx hb dX2_copyFrom_38 rfl (lv_at hl 0 rfl) ?_
  refine lv_aload_n hx hb dX2_copyFrom_39 rfl (lv_at hl 1 rfl) ?_
  refine gf_crane_waits (r := r) (fun X => aw G ad (upd (upd (m_X6_copyRow_tg (m_X6_copyRow_wh g g2 r) g2 r) (100 + r) (g2 (100 + r))) (104 + r) (g2 (104 + r))) ++ X) (Fr_r _) cx wo (by omega) m_111 dX2_copyFrom_40 ?_
  refine pf_crane_waits (r := r) (fun X => X ++ aw G ad2 g2) (Fr_l _) cx wo (by omega) m_111 dX2_copyFrom_43 (fun H locs gz hgz wo => ?_)
  subst hgz
  exact r2_v cx hQ wo dX2_copyFrom_46 (by subst hM; exact ⟨rfl, rfl⟩)
theorem m_X2_copyFrom_at (g g2 : St) (r i : Nat) (hr : r < 2) : m_X2_copyFrom g g2 r i = if (108 + 16 * r ≤ i ∧ i < 124 + 16 * r) ∨ i = 100 + r ∨ i = 104 + r ∨ i = 106 + r then g2 i else g i := by
  unfold m_X2_copyFrom
  simp only [upd, m_X6_copyRow_wh_at, m_X6_copyRow_tg_at]
  (repeat' split) <;> first | rfl | omega | (subst_vars; rfl)
abbrev rm_X1_copyFrom : Room := { frames := 2, cells := 0, slots := 0, locals := 42 }
def m_X1_copyFrom (g g2 : St) : St :=
  (upd (upd (upd (upd (upd (upd (m_X4_copyFrom (m_X4_copyFrom (m_X4_copyFrom (m_X4_copyFrom (m_X4_copyFrom (m_X4_copyFrom g g2 13) g2 14) g2 15) g2 16) g2 17) g2 18) 140 (g2 140)) 142 (g2 142)) 143 (g2 143)) 144 (g2 144)) 145 (g2 145)) 146 (g2 146))
set_option maxHeartbeats 4000000 in
set_option maxRecDepth 100000 in
theorem c_X1_copyFrom (l : Launch) (G : GG) (ad ad2 : Nat → Nat) (g g2 : St)  : Ct l G yX1_copyFrom cX1_copyFrom 2 (none : Option Jvm.ClassFile.FieldType) rm_X1_copyFrom [.ref (ad 28), .ref (ad2 28)] (aw G ad g ++ aw G ad2 g2) (fun rv W1 => rv = none ∧ W1 = aw G ad (m_X1_copyFrom g g2) ++ aw G ad2 g2) := by
  refine Ct.mk2 (by decide) (Nat.le_of_ble_eq_true rfl) ?_
  intro p e s m args below meth c A H locs ls Q cx wo hl hQ
  obtain ⟨hx, hb, hml, hr, hlo, hown, hts, hnm, kn, hA⟩ := id cx
  have hl : lv_has ls 2 [(0, .ref (ad 28)), (1, .ref (ad2 28))] := hl
  generalize hM : m_X1_copyFrom g g2 = M at hQ
  unfold m_X1_copyFrom at hM
  refine lv_aload_n hx hb dX1_copyFrom_0 rfl (lv_at hl 0 rfl) ?_
  refine gf_books_pot (fun X => X ++ aw G ad2 g2) (Fr_l _) cx wo  m_135 dX1_copyFrom_1 ?_
  refine lv_aload_n hx hb dX1_copyFrom_4 rfl (lv_at hl 1 rfl) ?_
  refine gf_books_pot (fun X => aw G ad g ++ X) (Fr_r _) cx wo  m_135 dX1_copyFrom_5 ?_
  refine call_V (As := [.ref (ad2 13)]) (rest := []) (fun X => X) Fr_id cx (c_X4_copyFrom l G ad ad2 _ _ (t := 13) (by omega) (by omega)) fx_X4_copyFrom m_620 m_594 m_595 ⟨by decide, by decide⟩ wo (at_app (at_stuff G _ _ (t := 13) (by omega) (by omega))) rfl rfl rfl hl.1 rfl (Nat.le_of_ble_eq_true rfl) dX1_copyFrom_8 ⟨by decide, by decide⟩ (fun v W1 H locs hp wo => ?_)
  obtain ⟨rfl, rfl⟩ := hp
  refine nrm_v ?_
  refine lv_aload_n hx hb dX1_copyFrom_11 rfl (lv_at hl 0 rfl) ?_
  refine gf_books_givenBack (fun X => X ++ aw G ad2 g2) (Fr_l _) cx wo  m_137 dX1_copyFrom_12 ?_
  refine lv_aload_n hx hb dX1_copyFrom_15 rfl (lv_at hl 1 rfl) ?_
  refine gf_books_givenBack (fun X => aw G ad (m_X4_copyFrom g g2 13) ++ X) (Fr_r _) cx wo  m_137 dX1_copyFrom_16 ?_
  refine call_V (As := [.ref (ad2 14)]) (rest := []) (fun X => X) Fr_id cx (c_X4_copyFrom l G ad ad2 _ _ (t := 14) (by omega) (by omega)) fx_X4_copyFrom m_620 m_594 m_595 ⟨by decide, by decide⟩ wo (at_app (at_stuff G _ _ (t := 14) (by omega) (by omega))) rfl rfl rfl hl.1 rfl (Nat.le_of_ble_eq_true rfl) dX1_copyFrom_19 ⟨by decide, by decide⟩ (fun v W1 H locs hp wo => ?_)
  obtain ⟨rfl, rfl⟩ := hp
  refine nrm_v ?_
  refine lv_aload_n hx hb dX1_copyFrom_22 rfl (lv_at hl 0 rfl) ?_
  refine gf_books_cleanedOff (fun X => X ++ aw G ad2 g2) (Fr_l _) cx wo  m_139 dX1_copyFrom_23 ?_
  refine lv_aload_n hx hb dX1_copyFrom_26 rfl (lv_at hl 1 rfl) ?_
  refine gf_books_cleanedOff (fun X => aw G ad (m_X4_copyFrom (m_X4_copyFrom g g2 13) g2 14) ++ X) (Fr_r _) cx wo  m_139 dX1_copyFrom_27 ?_
  refine call_V (As := [.ref (ad2 15)]) (rest := []) (fun X => X) Fr_id cx (c_X4_copyFrom l G ad ad2 _ _ (t := 15) (by omega) (by omega)) fx_X4_copyFrom m_620 m_594 m_595 ⟨by decide, by decide⟩ wo (at_app (at_stuff G _ _ (t := 15) (by omega) (by omega))) rfl rfl rfl hl.1 rfl (Nat.le_of_ble_eq_true rfl) dX1_copyFrom_30 ⟨by decide, by decide⟩ (fun v W1 H locs hp wo => ?_)
  obtain ⟨rfl, rfl⟩ := hp
  refine nrm_v ?_
  refine lv_aload_n hx hb dX1_copyFrom_33 rfl (lv_at hl 0 rfl) ?_
  refine gf_books_cameIn (fun X => X ++ aw G ad2 g2) (Fr_l _) cx wo  m_141 dX1_copyFrom_34 ?_
  refine lv_aload_n hx hb dX1_copyFrom_37 rfl (lv_at hl 1 rfl) ?_
  refine gf_books_cameIn (fun X => aw G ad (m_X4_copyFrom (m_X4_copyFrom (m_X4_copyFrom g g2 13) g2 14) g2 15) ++ X) (Fr_r _) cx wo  m_141 dX1_copyFrom_38 ?_
  refine call_V (As := [.ref (ad2 16)]) (rest := []) (fun X => X) Fr_id cx (c_X4_copyFrom l G ad ad2 _ _ (t := 16) (by omega) (by omega)) fx_X4_copyFrom m_620 m_594 m_595 ⟨by decide, by decide⟩ wo (at_app (at_stuff G _ _ (t := 16) (by omega) (by omega))) rfl rfl rfl hl.1 rfl (Nat.le_of_ble_eq_true rfl) dX1_copyFrom_41 ⟨by decide, by decide⟩ (fun v W1 H locs hp wo => ?_)
  obtain ⟨rfl, rfl⟩ := hp
  refine nrm_v ?_
  refine lv_aload_n hx hb dX1_copyFrom_44 rfl (lv_at hl 0 rfl) ?_
  refine gf_books_becameOther (fun X => X ++ aw G ad2 g2) (Fr_l _) cx wo  m_144 dX1_copyFrom_45 ?_
  refine lv_aload_n hx hb dX1_copyFrom_48 rfl (lv_at hl 1 rfl) ?_
  refine gf_books_becameOther (fun X => aw G ad (m_X4_copyFrom (m_X4_copyFrom (m_X4_copyFrom (m_X4_copyFrom g g2 13) g2 14) g2 15) g2 16) ++ X) (Fr_r _) cx wo  m_144 dX1_copyFrom_49 ?_
  refine call_V (As := [.ref (ad2 17)]) (rest := []) (fun X => X) Fr_id cx (c_X4_copyFrom l G ad ad2 _ _ (t := 17) (by omega) (by omega)) fx_X4_copyFrom m_620 m_594 m_595 ⟨by decide, by decide⟩ wo (at_app (at_stuff G _ _ (t := 17) (by omega) (by omega))) rfl rfl rfl hl.1 rfl (Nat.le_of_ble_eq_true rfl) dX1_copyFrom_52 ⟨by decide, by decide⟩ (fun v W1 H locs hp wo => ?_)
  obtain ⟨rfl, rfl⟩ := hp
  refine nrm_v ?_
  refine lv_aload_n hx hb dX1_copyFrom_55 rfl (lv_at hl 0 rfl) ?_
  refine gf_books_cameOfOthers (fun X => X ++ aw G ad2 g2) (Fr_l _) cx wo  m_146 dX1_copyFrom_56 ?_
  refine lv_aload_n hx hb dX1_copyFrom_59 rfl (lv_at hl 1 rfl) ?_
  refine gf_books_cameOfOthers (fun X => aw G ad (m_X4_copyFrom (m_X4_copyFrom (m_X4_copyFrom (m_X4_copyFrom (m_X4_copyFrom g g2 13) g2 14) g2 15) g2 16) g2 17) ++ X) (Fr_r _) cx wo  m_146 dX1_copyFrom_60 ?_
  refine call_V (As := [.ref (ad2 18)]) (rest := []) (fun X => X) Fr_id cx (c_X4_copyFrom l G ad ad2 _ _ (t := 18) (by omega) (by omega)) fx_X4_copyFrom m_620 m_594 m_595 ⟨by decide, by decide⟩ wo (at_app (at_stuff G _ _ (t := 18) (by omega) (by omega))) rfl rfl rfl hl.1 rfl (Nat.le_of_ble_eq_true rfl) dX1_copyFrom_63 ⟨by decide, by decide⟩ (fun v W1 H locs hp wo => ?_)
  obtain ⟨rfl, rfl⟩ := hp
  refine nrm_v ?_
  refine lv_aload_n hx hb dX1_copyFrom_66 rfl (lv_at hl 0 rfl) ?_
  refine lv_aload_n hx hb dX1_copyFrom_67 rfl (lv_at hl 1 rfl) ?_
  refine gf_books_minutesPassed (fun X => aw G ad (m_X4_copyFrom (m_X4_copyFrom (m_X4_copyFrom (m_X4_copyFrom (m_X4_copyFrom (m_X4_copyFrom g g2 13) g2 14) g2 15) g2 16) g2 17) g2 18) ++ X) (Fr_r _) cx wo  m_148 dX1_copyFrom_68 ?_
  refine pf_books_minutesPassed (fun X => X ++ aw G ad2 g2) (Fr_l _) cx wo  m_148 dX1_copyFrom_71 (fun H locs gz hgz wo => ?_)
  subst hgz
  refine lv_aload_n hx hb dX1_copyFrom_74 rfl (lv_at hl 0 rfl) ?_
  refine lv_aload_n hx hb dX1_copyFrom_75 rfl (lv_at hl 1 rfl) ?_
  refine gf_books_gasOfMinute (fun X => aw G ad (upd (m_X4_copyFrom (m_X4_copyFrom (m_X4_copyFrom (m_X4_copyFrom (m_X4_copyFrom (m_X4_copyFrom g g2 13) g2 14) g2 15) g2 16) g2 17) g2 18) 140 (g2 140)) ++ X) (Fr_r _) cx wo  m_151 dX1_copyFrom_76 ?_
  refine pf_books_gasOfMinute (fun X => X ++ aw G ad2 g2) (Fr_l _) cx wo  m_151 dX1_copyFrom_79 (fun H locs gz hgz wo => ?_)
  subst hgz
  refine lv_aload_n hx hb dX1_copyFrom_82 rfl (lv_at hl 0 rfl) ?_
  refine lv_aload_n hx hb dX1_copyFrom_83 rfl (lv_at hl 1 rfl) ?_
  refine gf_books_anodes (fun X => aw G ad (upd (upd (m_X4_copyFrom (m_X4_copyFrom (m_X4_copyFrom (m_X4_copyFrom (m_X4_copyFrom (m_X4_copyFrom g g2 13) g2 14) g2 15) g2 16) g2 17) g2 18) 140 (g2 140)) 142 (g2 142)) ++ X) (Fr_r _) cx wo  m_153 dX1_copyFrom_84 ?_
  refine pf_books_anodes (fun X => X ++ aw G ad2 g2) (Fr_l _) cx wo  m_153 dX1_copyFrom_87 (fun H locs gz hgz wo => ?_)
  subst hgz
  refine lv_aload_n hx hb dX1_copyFrom_90 rfl (lv_at hl 0 rfl) ?_
  refine lv_aload_n hx hb dX1_copyFrom_91 rfl (lv_at hl 1 rfl) ?_
  refine gf_books_starved (fun X => aw G ad (upd (upd (upd (m_X4_copyFrom (m_X4_copyFrom (m_X4_copyFrom (m_X4_copyFrom (m_X4_copyFrom (m_X4_copyFrom g g2 13) g2 14) g2 15) g2 16) g2 17) g2 18) 140 (g2 140)) 142 (g2 142)) 143 (g2 143)) ++ X) (Fr_r _) cx wo  m_155 dX1_copyFrom_92 ?_
  refine pf_books_starved (fun X => X ++ aw G ad2 g2) (Fr_l _) cx wo  m_155 dX1_copyFrom_95 (fun H locs gz hgz wo => ?_)
  subst hgz
  refine lv_aload_n hx hb dX1_copyFrom_98 rfl (lv_at hl 0 rfl) ?_
  refine lv_aload_n hx hb dX1_copyFrom_99 rfl (lv_at hl 1 rfl) ?_
  refine gf_books_fullMinutes (fun X => aw G ad (upd (upd (upd (upd (m_X4_copyFrom (m_X4_copyFrom (m_X4_copyFrom (m_X4_copyFrom (m_X4_copyFrom (m_X4_copyFrom g g2 13) g2 14) g2 15) g2 16) g2 17) g2 18) 140 (g2 140)) 142 (g2 142)) 143 (g2 143)) 144 (g2 144)) ++ X) (Fr_r _) cx wo  m_157 dX1_copyFrom_100 ?_
  refine pf_books_fullMinutes (fun X => X ++ aw G ad2 g2) (Fr_l _) cx wo  m_157 dX1_copyFrom_103 (fun H locs gz hgz wo => ?_)
  subst hgz
  refine lv_aload_n hx hb dX1_copyFrom_106 rfl (lv_at hl 0 rfl) ?_
  refine lv_aload_n hx hb dX1_copyFrom_107 rfl (lv_at hl 1 rfl) ?_
  refine gf_books_ordersDone (fun X => aw G ad (upd (upd (upd (upd (upd (m_X4_copyFrom (m_X4_copyFrom (m_X4_copyFrom (m_X4_copyFrom (m_X4_copyFrom (m_X4_copyFrom g g2 13) g2 14) g2 15) g2 16) g2 17) g2 18) 140 (g2 140)) 142 (g2 142)) 143 (g2 143)) 144 (g2 144)) 145 (g2 145)) ++ X) (Fr_r _) cx wo  m_159 dX1_copyFrom_108 ?_
  refine pf_books_ordersDone (fun X => X ++ aw G ad2 g2) (Fr_l _) cx wo  m_159 dX1_copyFrom_111 (fun H locs gz hgz wo => ?_)
  subst hgz
  exact r2_v cx hQ wo dX1_copyFrom_114 (by subst hM; exact ⟨rfl, rfl⟩)
theorem m_X1_copyFrom_at (g g2 : St) (i : Nat) : m_X1_copyFrom g g2 i = if (52 ≤ i ∧ i < 76) ∨ i = 140 ∨ (142 ≤ i ∧ i ≤ 146) then g2 i else g i := by
  unfold m_X1_copyFrom
  simp only [upd, m_X4_copyFrom_at]
  (repeat' (refine itl (fun h1 => ?_) (fun h1 => ?_))) <;> first | (rw [if_pos (by omega)]; done) | (rw [if_neg (by omega)]; done) | (subst h1; rfl)
abbrev rm_X0_copyFrom : Room := { frames := 3, cells := 0, slots := 0, locals := 63 }
def m_X0_copyFrom (g g2 : St) : St :=
  (upd (upd (upd (m_X1_copyFrom (m_X2_copyFrom (m_X2_copyFrom (m_X3_copyFrom (m_X3_copyFrom (m_X3_copyFrom (m_X3_copyFrom (m_X5_copyFrom (m_X5_copyFrom (m_X5_copyFrom (m_X4_copyFrom g g2 0) g2 0) g2 1) g2 2) g2 0) g2 1) g2 2) g2 3) g2 0) g2 1) g2) 48 (g2 48)) 148 (g2 148)) 149 (g2 149))
set_option maxHeartbeats 4000000 in
set_option maxRecDepth 100000 in
theorem c_X0_copyFrom (l : Launch) (G : GG) (ad ad2 : Nat → Nat) (g g2 : St) (hz : ∀ i, i = 79 ∨ i = 80 ∨ i = 81 ∨ i = 149 → g2 i = 0 ∨ g2 i = 1) : Ct l G yX0_copyFrom cX0_copyFrom 3 (none : Option Jvm.ClassFile.FieldType) rm_X0_copyFrom [.ref (ad 12), .ref (ad2 12)] (aw G ad g ++ aw G ad2 g2) (fun rv W1 => rv = none ∧ W1 = aw G ad (m_X0_copyFrom g g2) ++ aw G ad2 g2) := by
  refine Ct.mk2 (by decide) (Nat.le_of_ble_eq_true rfl) ?_
  intro p e s m args below meth c A H locs ls Q cx wo hl hQ
  obtain ⟨hx, hb, hml, hr, hlo, hown, hts, hnm, kn, hA⟩ := id cx
  have hl : lv_has ls 3 [(0, .ref (ad 12)), (1, .ref (ad2 12))] := hl
  generalize hM : m_X0_copyFrom g g2 = M at hQ
  unfold m_X0_copyFrom at hM
  refine lv_aload_n hx hb dX0_copyFrom_0 rfl (lv_at hl 0 rfl) ?_
  refine gf_aisle_furnace (fun X => X ++ aw G ad2 g2) (Fr_l _) cx wo  m_250 dX0_copyFrom_1 ?_
  refine lv_aload_n hx hb dX0_copyFrom_4 rfl (lv_at hl 1 rfl) ?_
  refine gf_aisle_furnace (fun X => aw G ad g ++ X) (Fr_r _) cx wo  m_250 dX0_copyFrom_5 ?_
  refine call_V (As := [.ref (ad2 0)]) (rest := []) (fun X => X) Fr_id cx (c_X4_copyFrom l G ad ad2 _ _ (t := 0) (by omega) (by omega)) fx_X4_copyFrom m_593 m_594 m_595 ⟨by decide, by decide⟩ wo (at_app (at_stuff G _ _ (t := 0) (by omega) (by omega))) rfl rfl rfl hl.1 rfl (Nat.le_of_ble_eq_true rfl) dX0_copyFrom_8 ⟨by decide, by decide⟩ (fun v W1 H locs hp wo => ?_)
  obtain ⟨rfl, rfl⟩ := hp
  refine nrm_v ?_
  refine lv_iconst (v := 0) hx hb dX0_copyFrom_11 (by decide) ?_
  refine lv_istore_n (lv' := [(2, .int 0), (0, .ref (ad 12)), (1, .ref (ad2 12))]) hx hb dX0_copyFrom_12 rfl hl (by decide) rfl (fun ls hl => ?_)
  refine lv_iload_n hx hb dX0_copyFrom_13 rfl (lv_at hl 0 rfl) ?_
  refine lv_aload_n hx hb dX0_copyFrom_14 rfl (lv_at hl 1 rfl) ?_
  refine gf_aisle_vessels (fun X => X ++ aw G ad2 g2) (Fr_l _) cx wo  m_251 dX0_copyFrom_15 ?_
  refine alen (v := 3) (fun X => X ++ aw G ad2 g2) (Fr_l _) cx wo (at_vs G _ _) (t0 := 1) rfl rfl dX0_copyFrom_18 ?_
  refine lv_icmp_ge (tgt := 52) hx hb dX0_copyFrom_19 (by decide) (fun h => absurd h (by decide)) (fun _ => ?_)
  refine lv_iload_n hx hb dX0_copyFrom_22 rfl (lv_at hl 0 rfl) ?_
  refine lv_aload_n hx hb dX0_copyFrom_23 rfl (lv_at hl 2 rfl) ?_
  refine gf_aisle_vessels (fun X => aw G ad (m_X4_copyFrom g g2 0) ++ X) (Fr_r _) cx wo  m_251 dX0_copyFrom_24 ?_
  refine alen (v := 3) (fun X => aw G ad (m_X4_copyFrom g g2 0) ++ X) (Fr_r _) cx wo (at_vs G _ _) (t0 := 1) rfl rfl dX0_copyFrom_27 ?_
  refine lv_icmp_ge (tgt := 52) hx hb dX0_copyFrom_28 (by decide) (fun h => absurd h (by decide)) (fun _ => ?_)
  refine lv_aload_n hx hb dX0_copyFrom_31 rfl (lv_at hl 1 rfl) ?_
  refine gf_aisle_vessels (fun X => X ++ aw G ad2 g2) (Fr_l _) cx wo  m_251 dX0_copyFrom_32 ?_
  refine lv_iload_n hx hb dX0_copyFrom_35 rfl (lv_at hl 0 rfl) ?_
  refine ald_r (n := 0) (fun X => X ++ aw G ad2 g2) (Fr_l _) cx wo (at_vs G _ _) (t0 := 1) rfl rfl (by omega) (by decide) dX0_copyFrom_36 ?_
  refine topv (y := .ref (ad (19 + 0))) rfl ?_
  refine lv_aload_n hx hb dX0_copyFrom_37 rfl (lv_at hl 2 rfl) ?_
  refine gf_aisle_vessels (fun X => aw G ad (m_X4_copyFrom g g2 0) ++ X) (Fr_r _) cx wo  m_251 dX0_copyFrom_38 ?_
  refine lv_iload_n hx hb dX0_copyFrom_41 rfl (lv_at hl 0 rfl) ?_
  refine ald_r (n := 0) (fun X => aw G ad (m_X4_copyFrom g g2 0) ++ X) (Fr_r _) cx wo (at_vs G _ _) (t0 := 1) rfl rfl (by omega) (by decide) dX0_copyFrom_42 ?_
  refine topv (y := .ref (ad2 (19 + 0))) rfl ?_
  refine call_V (As := [.ref (ad2 (19 + 0))]) (rest := []) (fun X => X) Fr_id cx (c_X5_copyFrom l G ad ad2 _ _ (v := 0) (by omega) (hz _ (by omega))) fx_X5_copyFrom m_599 m_600 m_601 ⟨by decide, by decide⟩ wo (at_app (at_vessel G _ _ (v := 0) (by omega))) rfl rfl rfl hl.1 rfl (Nat.le_of_ble_eq_true rfl) dX0_copyFrom_43 ⟨by decide, by decide⟩ (fun v W1 H locs hp wo => ?_)
  obtain ⟨rfl, rfl⟩ := hp
  refine nrm_v ?_
  refine lv_iinc (v := 1) (lv' := [(2, .int 1), (0, .ref (ad 12)), (1, .ref (ad2 12))]) hx hb dX0_copyFrom_46 hl (k := 0) rfl (by decide) (by decide) rfl (fun ls hl => ?_)
  refine lv_goto (tgt := 13) hx hb dX0_copyFrom_49 (by decide) ?_
  refine lv_iload_n hx hb dX0_copyFrom_13 rfl (lv_at hl 0 rfl) ?_
  refine lv_aload_n hx hb dX0_copyFrom_14 rfl (lv_at hl 1 rfl) ?_
  refine gf_aisle_vessels (fun X => X ++ aw G ad2 g2) (Fr_l _) cx wo  m_251 dX0_copyFrom_15 ?_
  refine alen (v := 3) (fun X => X ++ aw G ad2 g2) (Fr_l _) cx wo (at_vs G _ _) (t0 := 1) rfl rfl dX0_copyFrom_18 ?_
  refine lv_icmp_ge (tgt := 52) hx hb dX0_copyFrom_19 (by decide) (fun h => absurd h (by decide)) (fun _ => ?_)
  refine lv_iload_n hx hb dX0_copyFrom_22 rfl (lv_at hl 0 rfl) ?_
  refine lv_aload_n hx hb dX0_copyFrom_23 rfl (lv_at hl 2 rfl) ?_
  refine gf_aisle_vessels (fun X => aw G ad (m_X5_copyFrom (m_X4_copyFrom g g2 0) g2 0) ++ X) (Fr_r _) cx wo  m_251 dX0_copyFrom_24 ?_
  refine alen (v := 3) (fun X => aw G ad (m_X5_copyFrom (m_X4_copyFrom g g2 0) g2 0) ++ X) (Fr_r _) cx wo (at_vs G _ _) (t0 := 1) rfl rfl dX0_copyFrom_27 ?_
  refine lv_icmp_ge (tgt := 52) hx hb dX0_copyFrom_28 (by decide) (fun h => absurd h (by decide)) (fun _ => ?_)
  refine lv_aload_n hx hb dX0_copyFrom_31 rfl (lv_at hl 1 rfl) ?_
  refine gf_aisle_vessels (fun X => X ++ aw G ad2 g2) (Fr_l _) cx wo  m_251 dX0_copyFrom_32 ?_
  refine lv_iload_n hx hb dX0_copyFrom_35 rfl (lv_at hl 0 rfl) ?_
  refine ald_r (n := 1) (fun X => X ++ aw G ad2 g2) (Fr_l _) cx wo (at_vs G _ _) (t0 := 1) rfl rfl (by omega) (by decide) dX0_copyFrom_36 ?_
  refine topv (y := .ref (ad (19 + 1))) rfl ?_
  refine lv_aload_n hx hb dX0_copyFrom_37 rfl (lv_at hl 2 rfl) ?_
  refine gf_aisle_vessels (fun X => aw G ad (m_X5_copyFrom (m_X4_copyFrom g g2 0) g2 0) ++ X) (Fr_r _) cx wo  m_251 dX0_copyFrom_38 ?_
  refine lv_iload_n hx hb dX0_copyFrom_41 rfl (lv_at hl 0 rfl) ?_
  refine ald_r (n := 1) (fun X => aw G ad (m_X5_copyFrom (m_X4_copyFrom g g2 0) g2 0) ++ X) (Fr_r _) cx wo (at_vs G _ _) (t0 := 1) rfl rfl (by omega) (by decide) dX0_copyFrom_42 ?_
  refine topv (y := .ref (ad2 (19 + 1))) rfl ?_
  refine call_V (As := [.ref (ad2 (19 + 1))]) (rest := []) (fun X => X) Fr_id cx (c_X5_copyFrom l G ad ad2 _ _ (v := 1) (by omega) (hz _ (by omega))) fx_X5_copyFrom m_599 m_600 m_601 ⟨by decide, by decide⟩ wo (at_app (at_vessel G _ _ (v := 1) (by omega))) rfl rfl rfl hl.1 rfl (Nat.le_of_ble_eq_true rfl) dX0_copyFrom_43 ⟨by decide, by decide⟩ (fun v W1 H locs hp wo => ?_)
  obtain ⟨rfl, rfl⟩ := hp
  refine nrm_v ?_
  refine lv_iinc (v := 2) (lv' := [(2, .int 2), (0, .ref (ad 12)), (1, .ref (ad2 12))]) hx hb dX0_copyFrom_46 hl (k := 0) rfl (by decide) (by decide) rfl (fun ls hl => ?_)
  refine lv_goto (tgt := 13) hx hb dX0_copyFrom_49 (by decide) ?_
  refine lv_iload_n hx hb dX0_copyFrom_13 rfl (lv_at hl 0 rfl) ?_
  refine lv_aload_n hx hb dX0_copyFrom_14 rfl (lv_at hl 1 rfl) ?_
  refine gf_aisle_vessels (fun X => X ++ aw G ad2 g2) (Fr_l _) cx wo  m_251 dX0_copyFrom_15 ?_
  refine alen (v := 3) (fun X => X ++ aw G ad2 g2) (Fr_l _) cx wo (at_vs G _ _) (t0 := 1) rfl rfl dX0_copyFrom_18 ?_
  refine lv_icmp_ge (tgt := 52) hx hb dX0_copyFrom_19 (by decide) (fun h => absurd h (by decide)) (fun _ => ?_)
  refine lv_iload_n hx hb dX0_copyFrom_22 rfl (lv_at hl 0 rfl) ?_
  refine lv_aload_n hx hb dX0_copyFrom_23 rfl (lv_at hl 2 rfl) ?_
  refine gf_aisle_vessels (fun X => aw G ad (m_X5_copyFrom (m_X5_copyFrom (m_X4_copyFrom g g2 0) g2 0) g2 1) ++ X) (Fr_r _) cx wo  m_251 dX0_copyFrom_24 ?_
  refine alen (v := 3) (fun X => aw G ad (m_X5_copyFrom (m_X5_copyFrom (m_X4_copyFrom g g2 0) g2 0) g2 1) ++ X) (Fr_r _) cx wo (at_vs G _ _) (t0 := 1) rfl rfl dX0_copyFrom_27 ?_
  refine lv_icmp_ge (tgt := 52) hx hb dX0_copyFrom_28 (by decide) (fun h => absurd h (by decide)) (fun _ => ?_)
  refine lv_aload_n hx hb dX0_copyFrom_31 rfl (lv_at hl 1 rfl) ?_
  refine gf_aisle_vessels (fun X => X ++ aw G ad2 g2) (Fr_l _) cx wo  m_251 dX0_copyFrom_32 ?_
  refine lv_iload_n hx hb dX0_copyFrom_35 rfl (lv_at hl 0 rfl) ?_
  refine ald_r (n := 2) (fun X => X ++ aw G ad2 g2) (Fr_l _) cx wo (at_vs G _ _) (t0 := 1) rfl rfl (by omega) (by decide) dX0_copyFrom_36 ?_
  refine topv (y := .ref (ad (19 + 2))) rfl ?_
  refine lv_aload_n hx hb dX0_copyFrom_37 rfl (lv_at hl 2 rfl) ?_
  refine gf_aisle_vessels (fun X => aw G ad (m_X5_copyFrom (m_X5_copyFrom (m_X4_copyFrom g g2 0) g2 0) g2 1) ++ X) (Fr_r _) cx wo  m_251 dX0_copyFrom_38 ?_
  refine lv_iload_n hx hb dX0_copyFrom_41 rfl (lv_at hl 0 rfl) ?_
  refine ald_r (n := 2) (fun X => aw G ad (m_X5_copyFrom (m_X5_copyFrom (m_X4_copyFrom g g2 0) g2 0) g2 1) ++ X) (Fr_r _) cx wo (at_vs G _ _) (t0 := 1) rfl rfl (by omega) (by decide) dX0_copyFrom_42 ?_
  refine topv (y := .ref (ad2 (19 + 2))) rfl ?_
  refine call_V (As := [.ref (ad2 (19 + 2))]) (rest := []) (fun X => X) Fr_id cx (c_X5_copyFrom l G ad ad2 _ _ (v := 2) (by omega) (hz _ (by omega))) fx_X5_copyFrom m_599 m_600 m_601 ⟨by decide, by decide⟩ wo (at_app (at_vessel G _ _ (v := 2) (by omega))) rfl rfl rfl hl.1 rfl (Nat.le_of_ble_eq_true rfl) dX0_copyFrom_43 ⟨by decide, by decide⟩ (fun v W1 H locs hp wo => ?_)
  obtain ⟨rfl, rfl⟩ := hp
  refine nrm_v ?_
  refine lv_iinc (v := 3) (lv' := [(2, .int 3), (0, .ref (ad 12)), (1, .ref (ad2 12))]) hx hb dX0_copyFrom_46 hl (k := 0) rfl (by decide) (by decide) rfl (fun ls hl => ?_)
  refine lv_goto (tgt := 13) hx hb dX0_copyFrom_49 (by decide) ?_
  refine lv_iload_n hx hb dX0_copyFrom_13 rfl (lv_at hl 0 rfl) ?_
  refine lv_aload_n hx hb dX0_copyFrom_14 rfl (lv_at hl 1 rfl) ?_
  refine gf_aisle_vessels (fun X => X ++ aw G ad2 g2) (Fr_l _) cx wo  m_251 dX0_copyFrom_15 ?_
  refine alen (v := 3) (fun X => X ++ aw G ad2 g2) (Fr_l _) cx wo (at_vs G _ _) (t0 := 1) rfl rfl dX0_copyFrom_18 ?_
  refine lv_icmp_ge (tgt := 52) hx hb dX0_copyFrom_19 (by decide) (fun _ => ?_) (fun h => absurd (show ¬ _ from h) (by decide))
  refine lv_iconst (v := 0) hx hb dX0_copyFrom_52 (by decide) ?_
  refine lv_istore_n (lv' := [(2, .int 0), (0, .ref (ad 12)), (1, .ref (ad2 12))]) hx hb dX0_copyFrom_53 rfl hl (by decide) rfl (fun ls hl => ?_)
  refine lv_iload_n hx hb dX0_copyFrom_54 rfl (lv_at hl 0 rfl) ?_
  refine lv_aload_n hx hb dX0_copyFrom_55 rfl (lv_at hl 1 rfl) ?_
  refine gf_aisle_ladles (fun X => X ++ aw G ad2 g2) (Fr_l _) cx wo  m_252 dX0_copyFrom_56 ?_
  refine alen (v := 4) (fun X => X ++ aw G ad2 g2) (Fr_l _) cx wo (at_ls G _ _) (t0 := 2) rfl rfl dX0_copyFrom_59 ?_
  refine lv_icmp_ge (tgt := 93) hx hb dX0_copyFrom_60 (by decide) (fun h => absurd h (by decide)) (fun _ => ?_)
  refine lv_iload_n hx hb dX0_copyFrom_63 rfl (lv_at hl 0 rfl) ?_
  refine lv_aload_n hx hb dX0_copyFrom_64 rfl (lv_at hl 2 rfl) ?_
  refine gf_aisle_ladles (fun X => aw G ad (m_X5_copyFrom (m_X5_copyFrom (m_X5_copyFrom (m_X4_copyFrom g g2 0) g2 0) g2 1) g2 2) ++ X) (Fr_r _) cx wo  m_252 dX0_copyFrom_65 ?_
  refine alen (v := 4) (fun X => aw G ad (m_X5_copyFrom (m_X5_copyFrom (m_X5_copyFrom (m_X4_copyFrom g g2 0) g2 0) g2 1) g2 2) ++ X) (Fr_r _) cx wo (at_ls G _ _) (t0 := 2) rfl rfl dX0_copyFrom_68 ?_
  refine lv_icmp_ge (tgt := 93) hx hb dX0_copyFrom_69 (by decide) (fun h => absurd h (by decide)) (fun _ => ?_)
  refine lv_aload_n hx hb dX0_copyFrom_72 rfl (lv_at hl 1 rfl) ?_
  refine gf_aisle_ladles (fun X => X ++ aw G ad2 g2) (Fr_l _) cx wo  m_252 dX0_copyFrom_73 ?_
  refine lv_iload_n hx hb dX0_copyFrom_76 rfl (lv_at hl 0 rfl) ?_
  refine ald_r (n := 0) (fun X => X ++ aw G ad2 g2) (Fr_l _) cx wo (at_ls G _ _) (t0 := 2) rfl rfl (by omega) (by decide) dX0_copyFrom_77 ?_
  refine topv (y := .ref (ad (22 + 0))) rfl ?_
  refine lv_aload_n hx hb dX0_copyFrom_78 rfl (lv_at hl 2 rfl) ?_
  refine gf_aisle_ladles (fun X => aw G ad (m_X5_copyFrom (m_X5_copyFrom (m_X5_copyFrom (m_X4_copyFrom g g2 0) g2 0) g2 1) g2 2) ++ X) (Fr_r _) cx wo  m_252 dX0_copyFrom_79 ?_
  refine lv_iload_n hx hb dX0_copyFrom_82 rfl (lv_at hl 0 rfl) ?_
  refine ald_r (n := 0) (fun X => aw G ad (m_X5_copyFrom (m_X5_copyFrom (m_X5_copyFrom (m_X4_copyFrom g g2 0) g2 0) g2 1) g2 2) ++ X) (Fr_r _) cx wo (at_ls G _ _) (t0 := 2) rfl rfl (by omega) (by decide) dX0_copyFrom_83 ?_
  refine topv (y := .ref (ad2 (22 + 0))) rfl ?_
  refine call_V (As := [.ref (ad2 (22 + 0))]) (rest := []) (fun X => X) Fr_id cx (c_X3_copyFrom l G ad ad2 _ _ (d := 0) (by omega)) fx_X3_copyFrom m_604 m_605 m_606 ⟨by decide, by decide⟩ wo (at_app (at_ladle G _ _ (d := 0) (by omega))) rfl rfl rfl hl.1 rfl (Nat.le_of_ble_eq_true rfl) dX0_copyFrom_84 ⟨by decide, by decide⟩ (fun v W1 H locs hp wo => ?_)
  obtain ⟨rfl, rfl⟩ := hp
  refine nrm_v ?_
  refine lv_iinc (v := 1) (lv' := [(2, .int 1), (0, .ref (ad 12)), (1, .ref (ad2 12))]) hx hb dX0_copyFrom_87 hl (k := 0) rfl (by decide) (by decide) rfl (fun ls hl => ?_)
  refine lv_goto (tgt := 54) hx hb dX0_copyFrom_90 (by decide) ?_
  refine lv_iload_n hx hb dX0_copyFrom_54 rfl (lv_at hl 0 rfl) ?_
  refine lv_aload_n hx hb dX0_copyFrom_55 rfl (lv_at hl 1 rfl) ?_
  refine gf_aisle_ladles (fun X => X ++ aw G ad2 g2) (Fr_l _) cx wo  m_252 dX0_copyFrom_56 ?_
  refine alen (v := 4) (fun X => X ++ aw G ad2 g2) (Fr_l _) cx wo (at_ls G _ _) (t0 := 2) rfl rfl dX0_copyFrom_59 ?_
  refine lv_icmp_ge (tgt := 93) hx hb dX0_copyFrom_60 (by decide) (fun h => absurd h (by decide)) (fun _ => ?_)
  refine lv_iload_n hx hb dX0_copyFrom_63 rfl (lv_at hl 0 rfl) ?_
  refine lv_aload_n hx hb dX0_copyFrom_64 rfl (lv_at hl 2 rfl) ?_
  refine gf_aisle_ladles (fun X => aw G ad (m_X3_copyFrom (m_X5_copyFrom (m_X5_copyFrom (m_X5_copyFrom (m_X4_copyFrom g g2 0) g2 0) g2 1) g2 2) g2 0) ++ X) (Fr_r _) cx wo  m_252 dX0_copyFrom_65 ?_
  refine alen (v := 4) (fun X => aw G ad (m_X3_copyFrom (m_X5_copyFrom (m_X5_copyFrom (m_X5_copyFrom (m_X4_copyFrom g g2 0) g2 0) g2 1) g2 2) g2 0) ++ X) (Fr_r _) cx wo (at_ls G _ _) (t0 := 2) rfl rfl dX0_copyFrom_68 ?_
  refine lv_icmp_ge (tgt := 93) hx hb dX0_copyFrom_69 (by decide) (fun h => absurd h (by decide)) (fun _ => ?_)
  refine lv_aload_n hx hb dX0_copyFrom_72 rfl (lv_at hl 1 rfl) ?_
  refine gf_aisle_ladles (fun X => X ++ aw G ad2 g2) (Fr_l _) cx wo  m_252 dX0_copyFrom_73 ?_
  refine lv_iload_n hx hb dX0_copyFrom_76 rfl (lv_at hl 0 rfl) ?_
  refine ald_r (n := 1) (fun X => X ++ aw G ad2 g2) (Fr_l _) cx wo (at_ls G _ _) (t0 := 2) rfl rfl (by omega) (by decide) dX0_copyFrom_77 ?_
  refine topv (y := .ref (ad (22 + 1))) rfl ?_
  refine lv_aload_n hx hb dX0_copyFrom_78 rfl (lv_at hl 2 rfl) ?_
  refine gf_aisle_ladles (fun X => aw G ad (m_X3_copyFrom (m_X5_copyFrom (m_X5_copyFrom (m_X5_copyFrom (m_X4_copyFrom g g2 0) g2 0) g2 1) g2 2) g2 0) ++ X) (Fr_r _) cx wo  m_252 dX0_copyFrom_79 ?_
  refine lv_iload_n hx hb dX0_copyFrom_82 rfl (lv_at hl 0 rfl) ?_
  refine ald_r (n := 1) (fun X => aw G ad (m_X3_copyFrom (m_X5_copyFrom (m_X5_copyFrom (m_X5_copyFrom (m_X4_copyFrom g g2 0) g2 0) g2 1) g2 2) g2 0) ++ X) (Fr_r _) cx wo (at_ls G _ _) (t0 := 2) rfl rfl (by omega) (by decide) dX0_copyFrom_83 ?_
  refine topv (y := .ref (ad2 (22 + 1))) rfl ?_
  refine call_V (As := [.ref (ad2 (22 + 1))]) (rest := []) (fun X => X) Fr_id cx (c_X3_copyFrom l G ad ad2 _ _ (d := 1) (by omega)) fx_X3_copyFrom m_604 m_605 m_606 ⟨by decide, by decide⟩ wo (at_app (at_ladle G _ _ (d := 1) (by omega))) rfl rfl rfl hl.1 rfl (Nat.le_of_ble_eq_true rfl) dX0_copyFrom_84 ⟨by decide, by decide⟩ (fun v W1 H locs hp wo => ?_)
  obtain ⟨rfl, rfl⟩ := hp
  refine nrm_v ?_
  refine lv_iinc (v := 2) (lv' := [(2, .int 2), (0, .ref (ad 12)), (1, .ref (ad2 12))]) hx hb dX0_copyFrom_87 hl (k := 0) rfl (by decide) (by decide) rfl (fun ls hl => ?_)
  refine lv_goto (tgt := 54) hx hb dX0_copyFrom_90 (by decide) ?_
  refine lv_iload_n hx hb dX0_copyFrom_54 rfl (lv_at hl 0 rfl) ?_
  refine lv_aload_n hx hb dX0_copyFrom_55 rfl (lv_at hl 1 rfl) ?_
  refine gf_aisle_ladles (fun X => X ++ aw G ad2 g2) (Fr_l _) cx wo  m_252 dX0_copyFrom_56 ?_
  refine alen (v := 4) (fun X => X ++ aw G ad2 g2) (Fr_l _) cx wo (at_ls G _ _) (t0 := 2) rfl rfl dX0_copyFrom_59 ?_
  refine lv_icmp_ge (tgt := 93) hx hb dX0_copyFrom_60 (by decide) (fun h => absurd h (by decide)) (fun _ => ?_)
  refine lv_iload_n hx hb dX0_copyFrom_63 rfl (lv_at hl 0 rfl) ?_
  refine lv_aload_n hx hb dX0_copyFrom_64 rfl (lv_at hl 2 rfl) ?_
  refine gf_aisle_ladles (fun X => aw G ad (m_X3_copyFrom (m_X3_copyFrom (m_X5_copyFrom (m_X5_copyFrom (m_X5_copyFrom (m_X4_copyFrom g g2 0) g2 0) g2 1) g2 2) g2 0) g2 1) ++ X) (Fr_r _) cx wo  m_252 dX0_copyFrom_65 ?_
  refine alen (v := 4) (fun X => aw G ad (m_X3_copyFrom (m_X3_copyFrom (m_X5_copyFrom (m_X5_copyFrom (m_X5_copyFrom (m_X4_copyFrom g g2 0) g2 0) g2 1) g2 2) g2 0) g2 1) ++ X) (Fr_r _) cx wo (at_ls G _ _) (t0 := 2) rfl rfl dX0_copyFrom_68 ?_
  refine lv_icmp_ge (tgt := 93) hx hb dX0_copyFrom_69 (by decide) (fun h => absurd h (by decide)) (fun _ => ?_)
  refine lv_aload_n hx hb dX0_copyFrom_72 rfl (lv_at hl 1 rfl) ?_
  refine gf_aisle_ladles (fun X => X ++ aw G ad2 g2) (Fr_l _) cx wo  m_252 dX0_copyFrom_73 ?_
  refine lv_iload_n hx hb dX0_copyFrom_76 rfl (lv_at hl 0 rfl) ?_
  refine ald_r (n := 2) (fun X => X ++ aw G ad2 g2) (Fr_l _) cx wo (at_ls G _ _) (t0 := 2) rfl rfl (by omega) (by decide) dX0_copyFrom_77 ?_
  refine topv (y := .ref (ad (22 + 2))) rfl ?_
  refine lv_aload_n hx hb dX0_copyFrom_78 rfl (lv_at hl 2 rfl) ?_
  refine gf_aisle_ladles (fun X => aw G ad (m_X3_copyFrom (m_X3_copyFrom (m_X5_copyFrom (m_X5_copyFrom (m_X5_copyFrom (m_X4_copyFrom g g2 0) g2 0) g2 1) g2 2) g2 0) g2 1) ++ X) (Fr_r _) cx wo  m_252 dX0_copyFrom_79 ?_
  refine lv_iload_n hx hb dX0_copyFrom_82 rfl (lv_at hl 0 rfl) ?_
  refine ald_r (n := 2) (fun X => aw G ad (m_X3_copyFrom (m_X3_copyFrom (m_X5_copyFrom (m_X5_copyFrom (m_X5_copyFrom (m_X4_copyFrom g g2 0) g2 0) g2 1) g2 2) g2 0) g2 1) ++ X) (Fr_r _) cx wo (at_ls G _ _) (t0 := 2) rfl rfl (by omega) (by decide) dX0_copyFrom_83 ?_
  refine topv (y := .ref (ad2 (22 + 2))) rfl ?_
  refine call_V (As := [.ref (ad2 (22 + 2))]) (rest := []) (fun X => X) Fr_id cx (c_X3_copyFrom l G ad ad2 _ _ (d := 2) (by omega)) fx_X3_copyFrom m_604 m_605 m_606 ⟨by decide, by decide⟩ wo (at_app (at_ladle G _ _ (d := 2) (by omega))) rfl rfl rfl hl.1 rfl (Nat.le_of_ble_eq_true rfl) dX0_copyFrom_84 ⟨by decide, by decide⟩ (fun v W1 H locs hp wo => ?_)
  obtain ⟨rfl, rfl⟩ := hp
  refine nrm_v ?_
  refine lv_iinc (v := 3) (lv' := [(2, .int 3), (0, .ref (ad 12)), (1, .ref (ad2 12))]) hx hb dX0_copyFrom_87 hl (k := 0) rfl (by decide) (by decide) rfl (fun ls hl => ?_)
  refine lv_goto (tgt := 54) hx hb dX0_copyFrom_90 (by decide) ?_
  refine lv_iload_n hx hb dX0_copyFrom_54 rfl (lv_at hl 0 rfl) ?_
  refine lv_aload_n hx hb dX0_copyFrom_55 rfl (lv_at hl 1 rfl) ?_
  refine gf_aisle_ladles (fun X => X ++ aw G ad2 g2) (Fr_l _) cx wo  m_252 dX0_copyFrom_56 ?_
  refine alen (v := 4) (fun X => X ++ aw G ad2 g2) (Fr_l _) cx wo (at_ls G _ _) (t0 := 2) rfl rfl dX0_copyFrom_59 ?_
  refine lv_icmp_ge (tgt := 93) hx hb dX0_copyFrom_60 (by decide) (fun h => absurd h (by decide)) (fun _ => ?_)
  refine lv_iload_n hx hb dX0_copyFrom_63 rfl (lv_at hl 0 rfl) ?_
  refine lv_aload_n hx hb dX0_copyFrom_64 rfl (lv_at hl 2 rfl) ?_
  refine gf_aisle_ladles (fun X => aw G ad (m_X3_copyFrom (m_X3_copyFrom (m_X3_copyFrom (m_X5_copyFrom (m_X5_copyFrom (m_X5_copyFrom (m_X4_copyFrom g g2 0) g2 0) g2 1) g2 2) g2 0) g2 1) g2 2) ++ X) (Fr_r _) cx wo  m_252 dX0_copyFrom_65 ?_
  refine alen (v := 4) (fun X => aw G ad (m_X3_copyFrom (m_X3_copyFrom (m_X3_copyFrom (m_X5_copyFrom (m_X5_copyFrom (m_X5_copyFrom (m_X4_copyFrom g g2 0) g2 0) g2 1) g2 2) g2 0) g2 1) g2 2) ++ X) (Fr_r _) cx wo (at_ls G _ _) (t0 := 2) rfl rfl dX0_copyFrom_68 ?_
  refine lv_icmp_ge (tgt := 93) hx hb dX0_copyFrom_69 (by decide) (fun h => absurd h (by decide)) (fun _ => ?_)
  refine lv_aload_n hx hb dX0_copyFrom_72 rfl (lv_at hl 1 rfl) ?_
  refine gf_aisle_ladles (fun X => X ++ aw G ad2 g2) (Fr_l _) cx wo  m_252 dX0_copyFrom_73 ?_
  refine lv_iload_n hx hb dX0_copyFrom_76 rfl (lv_at hl 0 rfl) ?_
  refine ald_r (n := 3) (fun X => X ++ aw G ad2 g2) (Fr_l _) cx wo (at_ls G _ _) (t0 := 2) rfl rfl (by omega) (by decide) dX0_copyFrom_77 ?_
  refine topv (y := .ref (ad (22 + 3))) rfl ?_
  refine lv_aload_n hx hb dX0_copyFrom_78 rfl (lv_at hl 2 rfl) ?_
  refine gf_aisle_ladles (fun X => aw G ad (m_X3_copyFrom (m_X3_copyFrom (m_X3_copyFrom (m_X5_copyFrom (m_X5_copyFrom (m_X5_copyFrom (m_X4_copyFrom g g2 0) g2 0) g2 1) g2 2) g2 0) g2 1) g2 2) ++ X) (Fr_r _) cx wo  m_252 dX0_copyFrom_79 ?_
  refine lv_iload_n hx hb dX0_copyFrom_82 rfl (lv_at hl 0 rfl) ?_
  refine ald_r (n := 3) (fun X => aw G ad (m_X3_copyFrom (m_X3_copyFrom (m_X3_copyFrom (m_X5_copyFrom (m_X5_copyFrom (m_X5_copyFrom (m_X4_copyFrom g g2 0) g2 0) g2 1) g2 2) g2 0) g2 1) g2 2) ++ X) (Fr_r _) cx wo (at_ls G _ _) (t0 := 2) rfl rfl (by omega) (by decide) dX0_copyFrom_83 ?_
  refine topv (y := .ref (ad2 (22 + 3))) rfl ?_
  refine call_V (As := [.ref (ad2 (22 + 3))]) (rest := []) (fun X => X) Fr_id cx (c_X3_copyFrom l G ad ad2 _ _ (d := 3) (by omega)) fx_X3_copyFrom m_604 m_605 m_606 ⟨by decide, by decide⟩ wo (at_app (at_ladle G _ _ (d := 3) (by omega))) rfl rfl rfl hl.1 rfl (Nat.le_of_ble_eq_true rfl) dX0_copyFrom_84 ⟨by decide, by decide⟩ (fun v W1 H locs hp wo => ?_)
  obtain ⟨rfl, rfl⟩ := hp
  refine nrm_v ?_
  refine lv_iinc (v := 4) (lv' := [(2, .int 4), (0, .ref (ad 12)), (1, .ref (ad2 12))]) hx hb dX0_copyFrom_87 hl (k := 0) rfl (by decide) (by decide) rfl (fun ls hl => ?_)
  refine lv_goto (tgt := 54) hx hb dX0_copyFrom_90 (by decide) ?_
  refine lv_iload_n hx hb dX0_copyFrom_54 rfl (lv_at hl 0 rfl) ?_
  refine lv_aload_n hx hb dX0_copyFrom_55 rfl (lv_at hl 1 rfl) ?_
  refine gf_aisle_ladles (fun X => X ++ aw G ad2 g2) (Fr_l _) cx wo  m_252 dX0_copyFrom_56 ?_
  refine alen (v := 4) (fun X => X ++ aw G ad2 g2) (Fr_l _) cx wo (at_ls G _ _) (t0 := 2) rfl rfl dX0_copyFrom_59 ?_
  refine lv_icmp_ge (tgt := 93) hx hb dX0_copyFrom_60 (by decide) (fun _ => ?_) (fun h => absurd (show ¬ _ from h) (by decide))
  refine lv_aload_n hx hb dX0_copyFrom_93 rfl (lv_at hl 1 rfl) ?_
  refine gf_aisle_left (fun X => X ++ aw G ad2 g2) (Fr_l _) cx wo  m_253 dX0_copyFrom_94 ?_
  refine lv_aload_n hx hb dX0_copyFrom_97 rfl (lv_at hl 2 rfl) ?_
  refine gf_aisle_left (fun X => aw G ad (m_X3_copyFrom (m_X3_copyFrom (m_X3_copyFrom (m_X3_copyFrom (m_X5_copyFrom (m_X5_copyFrom (m_X5_copyFrom (m_X4_copyFrom g g2 0) g2 0) g2 1) g2 2) g2 0) g2 1) g2 2) g2 3) ++ X) (Fr_r _) cx wo  m_253 dX0_copyFrom_98 ?_
  refine call_V (As := [.ref (ad2 (26 + 0))]) (rest := []) (fun X => X) Fr_id cx (c_X2_copyFrom l G ad ad2 _ _ (r := 0) (by omega)) fx_X2_copyFrom m_609 m_610 m_611 ⟨by decide, by decide⟩ wo (at_app (at_crane G _ _ (r := 0) (by omega))) rfl rfl rfl hl.1 rfl (Nat.le_of_ble_eq_true rfl) dX0_copyFrom_101 ⟨by decide, by decide⟩ (fun v W1 H locs hp wo => ?_)
  obtain ⟨rfl, rfl⟩ := hp
  refine nrm_v ?_
  refine lv_aload_n hx hb dX0_copyFrom_104 rfl (lv_at hl 1 rfl) ?_
  refine gf_aisle_right (fun X => X ++ aw G ad2 g2) (Fr_l _) cx wo  m_254 dX0_copyFrom_105 ?_
  refine lv_aload_n hx hb dX0_copyFrom_108 rfl (lv_at hl 2 rfl) ?_
  refine gf_aisle_right (fun X => aw G ad (m_X2_copyFrom (m_X3_copyFrom (m_X3_copyFrom (m_X3_copyFrom (m_X3_copyFrom (m_X5_copyFrom (m_X5_copyFrom (m_X5_copyFrom (m_X4_copyFrom g g2 0) g2 0) g2 1) g2 2) g2 0) g2 1) g2 2) g2 3) g2 0) ++ X) (Fr_r _) cx wo  m_254 dX0_copyFrom_109 ?_
  refine call_V (As := [.ref (ad2 (26 + 1))]) (rest := []) (fun X => X) Fr_id cx (c_X2_copyFrom l G ad ad2 _ _ (r := 1) (by omega)) fx_X2_copyFrom m_609 m_610 m_611 ⟨by decide, by decide⟩ wo (at_app (at_crane G _ _ (r := 1) (by omega))) rfl rfl rfl hl.1 rfl (Nat.le_of_ble_eq_true rfl) dX0_copyFrom_112 ⟨by decide, by decide⟩ (fun v W1 H locs hp wo => ?_)
  obtain ⟨rfl, rfl⟩ := hp
  refine nrm_v ?_
  refine lv_aload_n hx hb dX0_copyFrom_115 rfl (lv_at hl 1 rfl) ?_
  refine gf_aisle_books (fun X => X ++ aw G ad2 g2) (Fr_l _) cx wo  m_255 dX0_copyFrom_116 ?_
  refine lv_aload_n hx hb dX0_copyFrom_119 rfl (lv_at hl 2 rfl) ?_
  refine gf_aisle_books (fun X => aw G ad (m_X2_copyFrom (m_X2_copyFrom (m_X3_copyFrom (m_X3_copyFrom (m_X3_copyFrom (m_X3_copyFrom (m_X5_copyFrom (m_X5_copyFrom (m_X5_copyFrom (m_X4_copyFrom g g2 0) g2 0) g2 1) g2 2) g2 0) g2 1) g2 2) g2 3) g2 0) g2 1) ++ X) (Fr_r _) cx wo  m_255 dX0_copyFrom_120 ?_
  refine call_V (As := [.ref (ad2 28)]) (rest := []) (fun X => X) Fr_id cx (c_X1_copyFrom l G ad ad2 _ _) fx_X1_copyFrom m_616 m_617 m_618 ⟨by decide, by decide⟩ wo (at_app (at_books G _ _ )) rfl rfl rfl hl.1 rfl (Nat.le_of_ble_eq_true rfl) dX0_copyFrom_123 ⟨by decide, by decide⟩ (fun v W1 H locs hp wo => ?_)
  obtain ⟨rfl, rfl⟩ := hp
  refine nrm_v ?_
  refine lv_aload_n hx hb dX0_copyFrom_126 rfl (lv_at hl 1 rfl) ?_
  refine lv_aload_n hx hb dX0_copyFrom_127 rfl (lv_at hl 2 rfl) ?_
  refine gf_aisle_wheelCopper (fun X => aw G ad (m_X1_copyFrom (m_X2_copyFrom (m_X2_copyFrom (m_X3_copyFrom (m_X3_copyFrom (m_X3_copyFrom (m_X3_copyFrom (m_X5_copyFrom (m_X5_copyFrom (m_X5_copyFrom (m_X4_copyFrom g g2 0) g2 0) g2 1) g2 2) g2 0) g2 1) g2 2) g2 3) g2 0) g2 1) g2) ++ X) (Fr_r _) cx wo  m_257 dX0_copyFrom_128 ?_
  refine pf_aisle_wheelCopper (fun X => X ++ aw G ad2 g2) (Fr_l _) cx wo  m_257 dX0_copyFrom_131 (fun H locs gz hgz wo => ?_)
  subst hgz
  refine lv_aload_n hx hb dX0_copyFrom_134 rfl (lv_at hl 1 rfl) ?_
  refine lv_aload_n hx hb dX0_copyFrom_135 rfl (lv_at hl 2 rfl) ?_
  refine gf_aisle_gasLimit (fun X => aw G ad (upd (m_X1_copyFrom (m_X2_copyFrom (m_X2_copyFrom (m_X3_copyFrom (m_X3_copyFrom (m_X3_copyFrom (m_X3_copyFrom (m_X5_copyFrom (m_X5_copyFrom (m_X5_copyFrom (m_X4_copyFrom g g2 0) g2 0) g2 1) g2 2) g2 0) g2 1) g2 2) g2 3) g2 0) g2 1) g2) 48 (g2 48)) ++ X) (Fr_r _) cx wo  m_258 dX0_copyFrom_136 ?_
  refine pf_aisle_gasLimit (fun X => X ++ aw G ad2 g2) (Fr_l _) cx wo  m_258 dX0_copyFrom_139 (fun H locs gz hgz wo => ?_)
  subst hgz
  refine lv_aload_n hx hb dX0_copyFrom_142 rfl (lv_at hl 1 rfl) ?_
  refine lv_aload_n hx hb dX0_copyFrom_143 rfl (lv_at hl 2 rfl) ?_
  refine gf_aisle_isFed (fun X => aw G ad (upd (upd (m_X1_copyFrom (m_X2_copyFrom (m_X2_copyFrom (m_X3_copyFrom (m_X3_copyFrom (m_X3_copyFrom (m_X3_copyFrom (m_X5_copyFrom (m_X5_copyFrom (m_X5_copyFrom (m_X4_copyFrom g g2 0) g2 0) g2 1) g2 2) g2 0) g2 1) g2 2) g2 3) g2 0) g2 1) g2) 48 (g2 48)) 148 (g2 148)) ++ X) (Fr_r _) cx wo  m_261 dX0_copyFrom_144 ?_
  refine pf_aisle_isFed (fun X => X ++ aw G ad2 g2) (Fr_l _) cx wo  m_261 (hz_nar (hz 149 (by omega))) (hz_fit (hz 149 (by omega))) dX0_copyFrom_147 (fun H locs gz hgz wo => ?_)
  subst hgz
  exact r2_v cx hQ wo dX0_copyFrom_150 (by subst hM; exact ⟨rfl, rfl⟩)
theorem aw_congr (G : GG) (ad : Nat → Nat) {g g' : St} (h : ∀ j i, j < 35 → rd j i → g' i = g i) : aw G ad g' = aw G ad g := by
  unfold aw
  refine List.map_congr_left fun j hj => ?_
  rw [ac_frame G ad (fun i hi => h j i (List.mem_range.mp hj) hi)]
theorem m_X0_copyFrom_at (g g2 : St) {j i : Nat} (hj : j < 35) (h : rd j i) : m_X0_copyFrom g g2 i = g2 i := by
  have hi : i < 150 ∧ ¬ i = 141 ∧ ¬ (49 ≤ i ∧ i ≤ 51) ∧ ¬ i = 102 ∧ ¬ i = 103 ∧ ¬ i = 147 := by
    unfold rd at h
    (repeat' split at h) <;> first | omega | exact h.elim
  unfold m_X0_copyFrom
  simp only [upd, m_X1_copyFrom_at, m_X2_copyFrom_at _ _ 0 _ (by decide), m_X2_copyFrom_at _ _ 1 _ (by decide), m_X3_copyFrom_at, m_X5_copyFrom_at, m_X4_copyFrom_at]
  clear h
  (repeat' (refine itl (fun h1 => ?_) (fun h1 => ?_))) <;> first | rfl | (subst h1; rfl) | (exfalso; omega)
theorem c_X0_copyAll (l : Launch) (G : GG) (ad ad2 : Nat → Nat) (g g2 : St) (hz : ∀ i, i = 79 ∨ i = 80 ∨ i = 81 ∨ i = 149 → g2 i = 0 ∨ g2 i = 1) : Ct l G yX0_copyFrom cX0_copyFrom 3 (none : Option Jvm.ClassFile.FieldType) rm_X0_copyFrom [.ref (ad 12), .ref (ad2 12)] (aw G ad g ++ aw G ad2 g2) (fun rv W1 => rv = none ∧ W1 = aw G ad g2 ++ aw G ad2 g2) := by
  have h := c_X0_copyFrom l G ad ad2 g g2 hz
  rw [aw_congr G ad (g := g2) (fun j i hj hi => m_X0_copyFrom_at g g2 hj hi)] at h
  exact h
