/-! printed walks: the aisle -/
abbrev rm_X0_vesselNumbered : Room := { frames := 1, cells := 0, slots := 0, locals := 22 }
def m_X0_vesselNumbered (g : St) (n : Int32) : Option Nat :=
  if (m_X6_isBetween 0 n 2) = true then (some (n.toNatClampNeg))
  else none
set_option maxHeartbeats 4000000 in
set_option maxRecDepth 100000 in
theorem c_X0_vesselNumbered (l : Launch) (G : GG) (ad : Nat → Nat) (g : St) (n : Int32) : Ct l G yX0_vesselNumbered cX0_vesselNumbered 2 (some (Jvm.ClassFile.FieldType.object "HotAisle$Vessel")) rm_X0_vesselNumbered [.ref (ad 12), .int n] (aw G ad g) (fun rv W1 => rv = some (va_rf ((m_X0_vesselNumbered g n).map (fun q => ad (19 + q)))) ∧ W1 = aw G ad g) := by
  refine Ct.mk2 (by decide) (Nat.le_of_ble_eq_true rfl) ?_
  intro p e s m args below meth c A H locs ls Q cx wo hl hQ
  obtain ⟨hx, hb, hml, hr, hlo, hown, hts, hnm, kn, hA⟩ := id cx
  have hl : lv_has ls 2 [(0, .ref (ad 12)), (1, .int n)] := hl
  generalize hM : m_X0_vesselNumbered g n = M at hQ
  unfold m_X0_vesselNumbered at hM
  refine lv_iconst (v := 0) hx hb dX0_vesselNumbered_0 (by decide) ?_
  refine lv_iload_n hx hb dX0_vesselNumbered_1 rfl (lv_at hl 1 rfl) ?_
  refine lv_aload_n hx hb dX0_vesselNumbered_2 rfl (lv_at hl 0 rfl) ?_
  refine gf_aisle_vessels (fun X => X) Fr_id cx wo  m_251 dX0_vesselNumbered_3 ?_
  refine alen (v := 3) (fun X => X) Fr_id cx wo (at_vs G _ _) (t0 := 1) rfl rfl dX0_vesselNumbered_6 ?_
  refine lv_iconst (v := 1) hx hb dX0_vesselNumbered_7 (by decide) ?_
  refine lv_isub hx hb dX0_vesselNumbered_8 ?_
  refine tope (y := 2) (by decide) ?_
  refine call_SN (host := "HotAisle") (As := [.int 0, .int n, .int 2]) (rest := []) (fun X => X) Fr_id cx (c_X6_isBetween l G _ 0 n 2) fx_X6_isBetween (by decide) m_304 ⟨by decide, by decide⟩ wo rfl hl.1 rfl (Nat.le_of_ble_eq_true rfl) dX0_vesselNumbered_9 ⟨by decide, by decide⟩ (fun v W1 H locs hp wo => ?_)
  obtain ⟨rfl, rfl⟩ := hp
  refine nrm_i ?_
  refine if_eq_b (tgt := 24) hx hb dX0_vesselNumbered_12 (by decide) (fun c_1 => ?_) (fun c_1 => ?_)
  · skip
    rw [if_neg c_1] at hM
    refine lv_null hx hb dX0_vesselNumbered_24 ?_
    exact r2_a (r := none) cx hQ wo dX0_vesselNumbered_25 (by subst hM; exact ⟨rfl, rfl⟩)
  · skip
    rw [if_pos c_1] at hM
    refine lv_aload_n hx hb dX0_vesselNumbered_15 rfl (lv_at hl 0 rfl) ?_
    refine gf_aisle_vessels (fun X => X) Fr_id cx wo  m_251 dX0_vesselNumbered_16 ?_
    refine lv_iload_n hx hb dX0_vesselNumbered_19 rfl (lv_at hl 1 rfl) ?_
    have ix_2 := ixb (k := 2) c_1
    have ix_2b := ix_2.2
    refine ald_r (n := n.toNatClampNeg) (fun X => X) Fr_id cx wo (at_vs G _ _) (t0 := 1) rfl ix_2.1 ix_2.2 (by decide) dX0_vesselNumbered_20 ?_
    refine topv (y := .ref (ad (19 + n.toNatClampNeg))) rfl ?_
    refine lv_goto (tgt := 25) hx hb dX0_vesselNumbered_21 (by decide) ?_
    exact r2_a (r := some (ad (19 + n.toNatClampNeg))) cx hQ wo dX0_vesselNumbered_25 (by subst hM; exact ⟨rfl, rfl⟩)
theorem m_X0_vesselNumbered_lt (g : St) (n : Int32) : (m_X0_vesselNumbered g n).getD 0 < 3 := by
  unfold m_X0_vesselNumbered
  split
  · rename_i h; exact (ixb (k := 2) h).2
  · decide
abbrev rm_X0_vesselAt : Room := { frames := 0, cells := 0, slots := 0, locals := 0 }
def m_X0_vesselAt (g : St) (n : Int32) : Option Nat :=
  if 4 = n then (some 0)
  else if 8 = n then (some 1)
  else if 12 = n then (some 2)
  else none
set_option maxHeartbeats 4000000 in
set_option maxRecDepth 100000 in
theorem c_X0_vesselAt (l : Launch) (G : GG) (ad : Nat → Nat) (g : St) (n : Int32) : Ct l G yX0_vesselAt cX0_vesselAt 6 (some (Jvm.ClassFile.FieldType.object "HotAisle$Vessel")) rm_X0_vesselAt [.ref (ad 12), .int n] (aw G ad g) (fun rv W1 => rv = some (va_rf ((m_X0_vesselAt g n).map (fun q => ad (19 + q)))) ∧ W1 = aw G ad g) := by
  refine Ct.mk2 (by decide) (Nat.le_of_ble_eq_true rfl) ?_
  intro p e s m args below meth c A H locs ls Q cx wo hl hQ
  obtain ⟨hx, hb, hml, hr, hlo, hown, hts, hnm, kn, hA⟩ := id cx
  have hl : lv_has ls 6 [(0, .ref (ad 12)), (1, .int n)] := hl
  generalize hM : m_X0_vesselAt g n = M at hQ
  unfold m_X0_vesselAt at hM
  refine lv_aload_n hx hb dX0_vesselAt_0 rfl (lv_at hl 0 rfl) ?_
  refine gf_aisle_vessels (fun X => X) Fr_id cx wo  m_251 dX0_vesselAt_1 ?_
  refine lv_astore_n (lv' := [(2, .ref (ad 29)), (0, .ref (ad 12)), (1, .int n)]) hx hb dX0_vesselAt_4 rfl hl (by decide) rfl (fun ls hl => ?_)
  refine lv_aload_n hx hb dX0_vesselAt_5 rfl (lv_at hl 0 rfl) ?_
  refine alen (v := 3) (fun X => X) Fr_id cx wo (at_vs G _ _) (t0 := 1) rfl rfl dX0_vesselAt_6 ?_
  refine lv_istore_n (lv' := [(3, .int 3), (2, .ref (ad 29)), (0, .ref (ad 12)), (1, .int n)]) hx hb dX0_vesselAt_7 rfl hl (by decide) rfl (fun ls hl => ?_)
  refine lv_iconst (v := 0) hx hb dX0_vesselAt_8 (by decide) ?_
  refine lv_istore (lv' := [(4, .int 0), (3, .int 3), (2, .ref (ad 29)), (0, .ref (ad 12)), (1, .int n)]) hx hb dX0_vesselAt_9 hl (by decide) rfl (fun ls hl => ?_)
  refine lv_iload hx hb dX0_vesselAt_11 (lv_at hl 0 rfl) ?_
  refine lv_iload_n hx hb dX0_vesselAt_13 rfl (lv_at hl 1 rfl) ?_
  refine lv_icmp_ge (tgt := 41) hx hb dX0_vesselAt_14 (by decide) (fun h => absurd h (by decide)) (fun _ => ?_)
  refine lv_aload_n hx hb dX0_vesselAt_17 rfl (lv_at hl 2 rfl) ?_
  refine lv_iload hx hb dX0_vesselAt_18 (lv_at hl 0 rfl) ?_
  refine ald_r (n := 0) (fun X => X) Fr_id cx wo (at_vs G _ _) (t0 := 1) rfl rfl (by omega) (by decide) dX0_vesselAt_20 ?_
  refine topv (y := .ref (ad (19 + 0))) rfl ?_
  refine lv_astore (lv' := [(5, .ref (ad (19 + 0))), (4, .int 0), (3, .int 3), (2, .ref (ad 29)), (0, .ref (ad 12)), (1, .int n)]) hx hb dX0_vesselAt_21 hl (by decide) rfl (fun ls hl => ?_)
  refine lv_aload hx hb dX0_vesselAt_23 (lv_at hl 0 rfl) ?_
  refine gf_vessel_place (v := 0) (fun X => X) Fr_id cx wo (by omega) m_195 dX0_vesselAt_25 ?_
  refine tope (y := 4) rfl ?_
  refine lv_iload_n hx hb dX0_vesselAt_28 rfl (lv_at hl 5 rfl) ?_
  refine lv_icmp_ne (tgt := 35) hx hb dX0_vesselAt_29 (by decide) (fun c_1 => ?_) (fun c_1 => ?_)
  · skip
    rw [if_neg c_1] at hM
    refine lv_iinc (v := 1) (lv' := [(4, .int 1), (5, .ref (ad (19 + 0))), (3, .int 3), (2, .ref (ad 29)), (0, .ref (ad 12)), (1, .int n)]) hx hb dX0_vesselAt_35 hl (k := 1) rfl (by decide) (by decide) rfl (fun ls hl => ?_)
    refine lv_goto (tgt := 11) hx hb dX0_vesselAt_38 (by decide) ?_
    refine lv_iload hx hb dX0_vesselAt_11 (lv_at hl 0 rfl) ?_
    refine lv_iload_n hx hb dX0_vesselAt_13 rfl (lv_at hl 2 rfl) ?_
    refine lv_icmp_ge (tgt := 41) hx hb dX0_vesselAt_14 (by decide) (fun h => absurd h (by decide)) (fun _ => ?_)
    refine lv_aload_n hx hb dX0_vesselAt_17 rfl (lv_at hl 3 rfl) ?_
    refine lv_iload hx hb dX0_vesselAt_18 (lv_at hl 0 rfl) ?_
    refine ald_r (n := 1) (fun X => X) Fr_id cx wo (at_vs G _ _) (t0 := 1) rfl rfl (by omega) (by decide) dX0_vesselAt_20 ?_
    refine topv (y := .ref (ad (19 + 1))) rfl ?_
    refine lv_astore (lv' := [(5, .ref (ad (19 + 1))), (4, .int 1), (3, .int 3), (2, .ref (ad 29)), (0, .ref (ad 12)), (1, .int n)]) hx hb dX0_vesselAt_21 hl (by decide) rfl (fun ls hl => ?_)
    refine lv_aload hx hb dX0_vesselAt_23 (lv_at hl 0 rfl) ?_
    refine gf_vessel_place (v := 1) (fun X => X) Fr_id cx wo (by omega) m_195 dX0_vesselAt_25 ?_
    refine tope (y := 8) rfl ?_
    refine lv_iload_n hx hb dX0_vesselAt_28 rfl (lv_at hl 5 rfl) ?_
    refine lv_icmp_ne (tgt := 35) hx hb dX0_vesselAt_29 (by decide) (fun c_2 => ?_) (fun c_2 => ?_)
    · skip
      rw [if_neg c_2] at hM
      refine lv_iinc (v := 2) (lv' := [(4, .int 2), (5, .ref (ad (19 + 1))), (3, .int 3), (2, .ref (ad 29)), (0, .ref (ad 12)), (1, .int n)]) hx hb dX0_vesselAt_35 hl (k := 1) rfl (by decide) (by decide) rfl (fun ls hl => ?_)
      refine lv_goto (tgt := 11) hx hb dX0_vesselAt_38 (by decide) ?_
      refine lv_iload hx hb dX0_vesselAt_11 (lv_at hl 0 rfl) ?_
      refine lv_iload_n hx hb dX0_vesselAt_13 rfl (lv_at hl 2 rfl) ?_
      refine lv_icmp_ge (tgt := 41) hx hb dX0_vesselAt_14 (by decide) (fun h => absurd h (by decide)) (fun _ => ?_)
      refine lv_aload_n hx hb dX0_vesselAt_17 rfl (lv_at hl 3 rfl) ?_
      refine lv_iload hx hb dX0_vesselAt_18 (lv_at hl 0 rfl) ?_
      refine ald_r (n := 2) (fun X => X) Fr_id cx wo (at_vs G _ _) (t0 := 1) rfl rfl (by omega) (by decide) dX0_vesselAt_20 ?_
      refine topv (y := .ref (ad (19 + 2))) rfl ?_
      refine lv_astore (lv' := [(5, .ref (ad (19 + 2))), (4, .int 2), (3, .int 3), (2, .ref (ad 29)), (0, .ref (ad 12)), (1, .int n)]) hx hb dX0_vesselAt_21 hl (by decide) rfl (fun ls hl => ?_)
      refine lv_aload hx hb dX0_vesselAt_23 (lv_at hl 0 rfl) ?_
      refine gf_vessel_place (v := 2) (fun X => X) Fr_id cx wo (by omega) m_195 dX0_vesselAt_25 ?_
      refine tope (y := 12) rfl ?_
      refine lv_iload_n hx hb dX0_vesselAt_28 rfl (lv_at hl 5 rfl) ?_
      refine lv_icmp_ne (tgt := 35) hx hb dX0_vesselAt_29 (by decide) (fun c_3 => ?_) (fun c_3 => ?_)
      · skip
        rw [if_neg c_3] at hM
        refine lv_iinc (v := 3) (lv' := [(4, .int 3), (5, .ref (ad (19 + 2))), (3, .int 3), (2, .ref (ad 29)), (0, .ref (ad 12)), (1, .int n)]) hx hb dX0_vesselAt_35 hl (k := 1) rfl (by decide) (by decide) rfl (fun ls hl => ?_)
        refine lv_goto (tgt := 11) hx hb dX0_vesselAt_38 (by decide) ?_
        refine lv_iload hx hb dX0_vesselAt_11 (lv_at hl 0 rfl) ?_
        refine lv_iload_n hx hb dX0_vesselAt_13 rfl (lv_at hl 2 rfl) ?_
        refine lv_icmp_ge (tgt := 41) hx hb dX0_vesselAt_14 (by decide) (fun _ => ?_) (fun h => absurd (show ¬ _ from h) (by decide))
        refine lv_null hx hb dX0_vesselAt_41 ?_
        exact r2_a (r := none) cx hQ wo dX0_vesselAt_42 (by subst hM; exact ⟨rfl, rfl⟩)
      · skip
        rw [if_pos c_3] at hM
        refine lv_aload hx hb dX0_vesselAt_32 (lv_at hl 0 rfl) ?_
        exact r2_a (r := some (ad (19 + 2))) cx hQ wo dX0_vesselAt_34 (by subst hM; exact ⟨rfl, rfl⟩)
    · skip
      rw [if_pos c_2] at hM
      refine lv_aload hx hb dX0_vesselAt_32 (lv_at hl 0 rfl) ?_
      exact r2_a (r := some (ad (19 + 1))) cx hQ wo dX0_vesselAt_34 (by subst hM; exact ⟨rfl, rfl⟩)
  · skip
    rw [if_pos c_1] at hM
    refine lv_aload hx hb dX0_vesselAt_32 (lv_at hl 0 rfl) ?_
    exact r2_a (r := some (ad (19 + 0))) cx hQ wo dX0_vesselAt_34 (by subst hM; exact ⟨rfl, rfl⟩)
theorem m_X0_vesselAt_lt (g : St) (n : Int32) : (m_X0_vesselAt g n).getD 0 < 3 := by
  unfold m_X0_vesselAt
  (repeat' split) <;> decide
abbrev rm_X0_isFloor : Room := { frames := 1, cells := 0, slots := 0, locals := 25 }
def m_X0_isFloor (g : St) (n : Int32) : Bool :=
  if n = 0 then false
  else if n = 2 then false
  else if n = 15 then false
  else if (m_X0_vesselAt g n).isSome = true then false
  else true
set_option maxHeartbeats 4000000 in
set_option maxRecDepth 100000 in
theorem c_X0_isFloor (l : Launch) (G : GG) (ad : Nat → Nat) (g : St) (n : Int32) : Ct l G yX0_isFloor cX0_isFloor 2 (some Jvm.ClassFile.FieldType.boolean) rm_X0_isFloor [.ref (ad 12), .int n] (aw G ad g) (fun rv W1 => rv = some (.int (bi (m_X0_isFloor g n))) ∧ W1 = aw G ad g) := by
  refine Ct.mk2 (by decide) (Nat.le_of_ble_eq_true rfl) ?_
  intro p e s m args below meth c A H locs ls Q cx wo hl hQ
  obtain ⟨hx, hb, hml, hr, hlo, hown, hts, hnm, kn, hA⟩ := id cx
  have hl : lv_has ls 2 [(0, .ref (ad 12)), (1, .int n)] := hl
  generalize hM : m_X0_isFloor g n = M at hQ
  unfold m_X0_isFloor at hM
  refine lv_iload_n hx hb dX0_isFloor_0 rfl (lv_at hl 1 rfl) ?_
  refine lv_if_eq (tgt := 27) hx hb dX0_isFloor_1 (by decide) (fun c_1 => ?_) (fun c_1 => ?_)
  · skip
    rw [if_pos c_1] at hM
    refine lv_iconst (v := 0) hx hb dX0_isFloor_27 (by decide) ?_
    refine tope (y := bi false) rfl ?_
    exact r2_z cx hQ wo dX0_isFloor_28 (by subst hM; exact ⟨rfl, rfl⟩)
  · skip
    rw [if_neg c_1] at hM
    refine lv_iload_n hx hb dX0_isFloor_4 rfl (lv_at hl 1 rfl) ?_
    refine lv_iconst (v := 2) hx hb dX0_isFloor_5 (by decide) ?_
    refine lv_icmp_eq (tgt := 27) hx hb dX0_isFloor_6 (by decide) (fun c_2 => ?_) (fun c_2 => ?_)
    · skip
      rw [if_pos c_2] at hM
      refine lv_iconst (v := 0) hx hb dX0_isFloor_27 (by decide) ?_
      refine tope (y := bi false) rfl ?_
      exact r2_z cx hQ wo dX0_isFloor_28 (by subst hM; exact ⟨rfl, rfl⟩)
    · skip
      rw [if_neg c_2] at hM
      refine lv_iload_n hx hb dX0_isFloor_9 rfl (lv_at hl 1 rfl) ?_
      refine lv_bipush (v := 15) hx hb dX0_isFloor_10 (by decide) ?_
      refine lv_icmp_eq (tgt := 27) hx hb dX0_isFloor_12 (by decide) (fun c_3 => ?_) (fun c_3 => ?_)
      · skip
        rw [if_pos c_3] at hM
        refine lv_iconst (v := 0) hx hb dX0_isFloor_27 (by decide) ?_
        refine tope (y := bi false) rfl ?_
        exact r2_z cx hQ wo dX0_isFloor_28 (by subst hM; exact ⟨rfl, rfl⟩)
      · skip
        rw [if_neg c_3] at hM
        refine lv_aload_n hx hb dX0_isFloor_15 rfl (lv_at hl 0 rfl) ?_
        refine lv_iload_n hx hb dX0_isFloor_16 rfl (lv_at hl 1 rfl) ?_
        refine call_V (As := [.int n]) (rest := []) (fun X => X) Fr_id cx (c_X0_vesselAt l G ad _ n) fx_X0_vesselAt m_446 m_447 m_448 ⟨by decide, by decide⟩ wo (at_aisle G _ _ ) rfl rfl rfl hl.1 rfl (Nat.le_of_ble_eq_true rfl) dX0_isFloor_17 ⟨by decide, by decide⟩ (fun v W1 H locs hp wo => ?_)
        obtain ⟨rfl, rfl⟩ := hp
        refine nrm_a (fun o_4 => ?_) (fun o_4 => ?_)
        · skip
          rw [if_neg o_4] at hM
          refine lv_ifnonnullN hx hb dX0_isFloor_20 ?_
          refine lv_iconst (v := 1) hx hb dX0_isFloor_23 (by decide) ?_
          refine lv_goto (tgt := 28) hx hb dX0_isFloor_24 (by decide) ?_
          refine tope (y := bi true) rfl ?_
          exact r2_z cx hQ wo dX0_isFloor_28 (by subst hM; exact ⟨rfl, rfl⟩)
        · skip
          rw [if_pos o_4] at hM
          have hq_5 : ((m_X0_vesselAt g n).getD 0) < 3 := m_X0_vesselAt_lt _ _
          refine topv (y := .ref (ad (19 + ((m_X0_vesselAt g n).getD 0)))) rfl ?_
          refine lv_ifnonnull (tgt := 27) hx hb dX0_isFloor_20 (by decide) ?_
          refine lv_iconst (v := 0) hx hb dX0_isFloor_27 (by decide) ?_
          refine tope (y := bi false) rfl ?_
          exact r2_z cx hQ wo dX0_isFloor_28 (by subst hM; exact ⟨rfl, rfl⟩)
abbrev rm_X0_ladleNumbered : Room := { frames := 1, cells := 0, slots := 0, locals := 22 }
def m_X0_ladleNumbered (g : St) (n : Int32) : Option Nat :=
  if (m_X6_isBetween 0 n 3) = true then (some (n.toNatClampNeg))
  else none
set_option maxHeartbeats 4000000 in
set_option maxRecDepth 100000 in
theorem c_X0_ladleNumbered (l : Launch) (G : GG) (ad : Nat → Nat) (g : St) (n : Int32) : Ct l G yX0_ladleNumbered cX0_ladleNumbered 2 (some (Jvm.ClassFile.FieldType.object "HotAisle$Ladle")) rm_X0_ladleNumbered [.ref (ad 12), .int n] (aw G ad g) (fun rv W1 => rv = some (va_rf ((m_X0_ladleNumbered g n).map (fun q => ad (22 + q)))) ∧ W1 = aw G ad g) := by
  refine Ct.mk2 (by decide) (Nat.le_of_ble_eq_true rfl) ?_
  intro p e s m args below meth c A H locs ls Q cx wo hl hQ
  obtain ⟨hx, hb, hml, hr, hlo, hown, hts, hnm, kn, hA⟩ := id cx
  have hl : lv_has ls 2 [(0, .ref (ad 12)), (1, .int n)] := hl
  generalize hM : m_X0_ladleNumbered g n = M at hQ
  unfold m_X0_ladleNumbered at hM
  refine lv_iconst (v := 0) hx hb dX0_ladleNumbered_0 (by decide) ?_
  refine lv_iload_n hx hb dX0_ladleNumbered_1 rfl (lv_at hl 1 rfl) ?_
  refine lv_aload_n hx hb dX0_ladleNumbered_2 rfl (lv_at hl 0 rfl) ?_
  refine gf_aisle_ladles (fun X => X) Fr_id cx wo  m_252 dX0_ladleNumbered_3 ?_
  refine alen (v := 4) (fun X => X) Fr_id cx wo (at_ls G _ _) (t0 := 2) rfl rfl dX0_ladleNumbered_6 ?_
  refine lv_iconst (v := 1) hx hb dX0_ladleNumbered_7 (by decide) ?_
  refine lv_isub hx hb dX0_ladleNumbered_8 ?_
  refine tope (y := 3) (by decide) ?_
  refine call_SN (host := "HotAisle") (As := [.int 0, .int n, .int 3]) (rest := []) (fun X => X) Fr_id cx (c_X6_isBetween l G _ 0 n 3) fx_X6_isBetween (by decide) m_304 ⟨by decide, by decide⟩ wo rfl hl.1 rfl (Nat.le_of_ble_eq_true rfl) dX0_ladleNumbered_9 ⟨by decide, by decide⟩ (fun v W1 H locs hp wo => ?_)
  obtain ⟨rfl, rfl⟩ := hp
  refine nrm_i ?_
  refine if_eq_b (tgt := 24) hx hb dX0_ladleNumbered_12 (by decide) (fun c_1 => ?_) (fun c_1 => ?_)
  · skip
    rw [if_neg c_1] at hM
    refine lv_null hx hb dX0_ladleNumbered_24 ?_
    exact r2_a (r := none) cx hQ wo dX0_ladleNumbered_25 (by subst hM; exact ⟨rfl, rfl⟩)
  · skip
    rw [if_pos c_1] at hM
    refine lv_aload_n hx hb dX0_ladleNumbered_15 rfl (lv_at hl 0 rfl) ?_
    refine gf_aisle_ladles (fun X => X) Fr_id cx wo  m_252 dX0_ladleNumbered_16 ?_
    refine lv_iload_n hx hb dX0_ladleNumbered_19 rfl (lv_at hl 1 rfl) ?_
    have ix_2 := ixb (k := 3) c_1
    have ix_2b := ix_2.2
    refine ald_r (n := n.toNatClampNeg) (fun X => X) Fr_id cx wo (at_ls G _ _) (t0 := 2) rfl ix_2.1 ix_2.2 (by decide) dX0_ladleNumbered_20 ?_
    refine topv (y := .ref (ad (22 + n.toNatClampNeg))) rfl ?_
    refine lv_goto (tgt := 25) hx hb dX0_ladleNumbered_21 (by decide) ?_
    exact r2_a (r := some (ad (22 + n.toNatClampNeg))) cx hQ wo dX0_ladleNumbered_25 (by subst hM; exact ⟨rfl, rfl⟩)
theorem m_X0_ladleNumbered_lt (g : St) (n : Int32) : (m_X0_ladleNumbered g n).getD 0 < 4 := by
  unfold m_X0_ladleNumbered
  split
  · rename_i h; exact (ixb (k := 3) h).2
  · decide
abbrev rm_X0_numberOfLadleOn : Room := { frames := 0, cells := 0, slots := 0, locals := 0 }
def m_X0_numberOfLadleOn (g : St) (r : Nat) : Int32 :=
  if (g 92) = (nI r) then 0
  else if (g 93) = (nI r) then 1
  else if (g 94) = (nI r) then 2
  else if (g 95) = (nI r) then 3
  else (-4)
set_option maxHeartbeats 4000000 in
set_option maxRecDepth 100000 in
theorem c_X0_numberOfLadleOn (l : Launch) (G : GG) (ad : Nat → Nat) (g : St) {r : Nat} (hr : r < 2) : Ct l G yX0_numberOfLadleOn cX0_numberOfLadleOn 3 (some Jvm.ClassFile.FieldType.int) rm_X0_numberOfLadleOn [.ref (ad 12), .ref (ad (26 + r))] (aw G ad g) (fun rv W1 => rv = some (.int (m_X0_numberOfLadleOn g r)) ∧ W1 = aw G ad g) := by
  refine Ct.mk2 (by decide) (Nat.le_of_ble_eq_true rfl) ?_
  intro p e s m args below meth c A H locs ls Q cx wo hl hQ
  obtain ⟨hx, hb, hml, hr, hlo, hown, hts, hnm, kn, hA⟩ := id cx
  have hl : lv_has ls 3 [(0, .ref (ad 12)), (1, .ref (ad (26 + r)))] := hl
  generalize hM : m_X0_numberOfLadleOn g r = M at hQ
  unfold m_X0_numberOfLadleOn at hM
  refine lv_iconst (v := 0) hx hb dX0_numberOfLadleOn_0 (by decide) ?_
  refine lv_istore_n (lv' := [(2, .int 0), (0, .ref (ad 12)), (1, .ref (ad (26 + r)))]) hx hb dX0_numberOfLadleOn_1 rfl hl (by decide) rfl (fun ls hl => ?_)
  refine lv_iload_n hx hb dX0_numberOfLadleOn_2 rfl (lv_at hl 0 rfl) ?_
  refine lv_aload_n hx hb dX0_numberOfLadleOn_3 rfl (lv_at hl 1 rfl) ?_
  refine gf_aisle_ladles (fun X => X) Fr_id cx wo  m_252 dX0_numberOfLadleOn_4 ?_
  refine alen (v := 4) (fun X => X) Fr_id cx wo (at_ls G _ _) (t0 := 2) rfl rfl dX0_numberOfLadleOn_7 ?_
  refine lv_icmp_ge (tgt := 35) hx hb dX0_numberOfLadleOn_8 (by decide) (fun h => absurd h (by decide)) (fun _ => ?_)
  refine lv_aload_n hx hb dX0_numberOfLadleOn_11 rfl (lv_at hl 1 rfl) ?_
  refine gf_aisle_ladles (fun X => X) Fr_id cx wo  m_252 dX0_numberOfLadleOn_12 ?_
  refine lv_iload_n hx hb dX0_numberOfLadleOn_15 rfl (lv_at hl 0 rfl) ?_
  refine ald_r (n := 0) (fun X => X) Fr_id cx wo (at_ls G _ _) (t0 := 2) rfl rfl (by omega) (by decide) dX0_numberOfLadleOn_16 ?_
  refine topv (y := .ref (ad (22 + 0))) rfl ?_
  refine gf_ladle_carrier (d := 0) (fun X => X) Fr_id cx wo (by omega) m_236 dX0_numberOfLadleOn_17 ?_
  refine tope (y := (g 92)) rfl ?_
  refine lv_aload_n hx hb dX0_numberOfLadleOn_20 rfl (lv_at hl 2 rfl) ?_
  refine gf_crane_number (r := r) (fun X => X) Fr_id cx wo (by omega) m_103 dX0_numberOfLadleOn_21 ?_
  refine tope (y := (nI r)) (congrArg nI (by omega)) ?_
  refine lv_icmp_ne (tgt := 29) hx hb dX0_numberOfLadleOn_24 (by decide) (fun c_1 => ?_) (fun c_1 => ?_)
  · skip
    rw [if_neg c_1] at hM
    refine lv_iinc (v := 1) (lv' := [(2, .int 1), (0, .ref (ad 12)), (1, .ref (ad (26 + r)))]) hx hb dX0_numberOfLadleOn_29 hl (k := 0) rfl (by decide) (by decide) rfl (fun ls hl => ?_)
    refine lv_goto (tgt := 2) hx hb dX0_numberOfLadleOn_32 (by decide) ?_
    refine lv_iload_n hx hb dX0_numberOfLadleOn_2 rfl (lv_at hl 0 rfl) ?_
    refine lv_aload_n hx hb dX0_numberOfLadleOn_3 rfl (lv_at hl 1 rfl) ?_
    refine gf_aisle_ladles (fun X => X) Fr_id cx wo  m_252 dX0_numberOfLadleOn_4 ?_
    refine alen (v := 4) (fun X => X) Fr_id cx wo (at_ls G _ _) (t0 := 2) rfl rfl dX0_numberOfLadleOn_7 ?_
    refine lv_icmp_ge (tgt := 35) hx hb dX0_numberOfLadleOn_8 (by decide) (fun h => absurd h (by decide)) (fun _ => ?_)
    refine lv_aload_n hx hb dX0_numberOfLadleOn_11 rfl (lv_at hl 1 rfl) ?_
    refine gf_aisle_ladles (fun X => X) Fr_id cx wo  m_252 dX0_numberOfLadleOn_12 ?_
    refine lv_iload_n hx hb dX0_numberOfLadleOn_15 rfl (lv_at hl 0 rfl) ?_
    refine ald_r (n := 1) (fun X => X) Fr_id cx wo (at_ls G _ _) (t0 := 2) rfl rfl (by omega) (by decide) dX0_numberOfLadleOn_16 ?_
    refine topv (y := .ref (ad (22 + 1))) rfl ?_
    refine gf_ladle_carrier (d := 1) (fun X => X) Fr_id cx wo (by omega) m_236 dX0_numberOfLadleOn_17 ?_
    refine tope (y := (g 93)) rfl ?_
    refine lv_aload_n hx hb dX0_numberOfLadleOn_20 rfl (lv_at hl 2 rfl) ?_
    refine gf_crane_number (r := r) (fun X => X) Fr_id cx wo (by omega) m_103 dX0_numberOfLadleOn_21 ?_
    refine tope (y := (nI r)) (congrArg nI (by omega)) ?_
    refine lv_icmp_ne (tgt := 29) hx hb dX0_numberOfLadleOn_24 (by decide) (fun c_2 => ?_) (fun c_2 => ?_)
    · skip
      rw [if_neg c_2] at hM
      refine lv_iinc (v := 2) (lv' := [(2, .int 2), (0, .ref (ad 12)), (1, .ref (ad (26 + r)))]) hx hb dX0_numberOfLadleOn_29 hl (k := 0) rfl (by decide) (by decide) rfl (fun ls hl => ?_)
      refine lv_goto (tgt := 2) hx hb dX0_numberOfLadleOn_32 (by decide) ?_
      refine lv_iload_n hx hb dX0_numberOfLadleOn_2 rfl (lv_at hl 0 rfl) ?_
      refine lv_aload_n hx hb dX0_numberOfLadleOn_3 rfl (lv_at hl 1 rfl) ?_
      refine gf_aisle_ladles (fun X => X) Fr_id cx wo  m_252 dX0_numberOfLadleOn_4 ?_
      refine alen (v := 4) (fun X => X) Fr_id cx wo (at_ls G _ _) (t0 := 2) rfl rfl dX0_numberOfLadleOn_7 ?_
      refine lv_icmp_ge (tgt := 35) hx hb dX0_numberOfLadleOn_8 (by decide) (fun h => absurd h (by decide)) (fun _ => ?_)
      refine lv_aload_n hx hb dX0_numberOfLadleOn_11 rfl (lv_at hl 1 rfl) ?_
      refine gf_aisle_ladles (fun X => X) Fr_id cx wo  m_252 dX0_numberOfLadleOn_12 ?_
      refine lv_iload_n hx hb dX0_numberOfLadleOn_15 rfl (lv_at hl 0 rfl) ?_
      refine ald_r (n := 2) (fun X => X) Fr_id cx wo (at_ls G _ _) (t0 := 2) rfl rfl (by omega) (by decide) dX0_numberOfLadleOn_16 ?_
      refine topv (y := .ref (ad (22 + 2))) rfl ?_
      refine gf_ladle_carrier (d := 2) (fun X => X) Fr_id cx wo (by omega) m_236 dX0_numberOfLadleOn_17 ?_
      refine tope (y := (g 94)) rfl ?_
      refine lv_aload_n hx hb dX0_numberOfLadleOn_20 rfl (lv_at hl 2 rfl) ?_
      refine gf_crane_number (r := r) (fun X => X) Fr_id cx wo (by omega) m_103 dX0_numberOfLadleOn_21 ?_
      refine tope (y := (nI r)) (congrArg nI (by omega)) ?_
      refine lv_icmp_ne (tgt := 29) hx hb dX0_numberOfLadleOn_24 (by decide) (fun c_3 => ?_) (fun c_3 => ?_)
      · skip
        rw [if_neg c_3] at hM
        refine lv_iinc (v := 3) (lv' := [(2, .int 3), (0, .ref (ad 12)), (1, .ref (ad (26 + r)))]) hx hb dX0_numberOfLadleOn_29 hl (k := 0) rfl (by decide) (by decide) rfl (fun ls hl => ?_)
        refine lv_goto (tgt := 2) hx hb dX0_numberOfLadleOn_32 (by decide) ?_
        refine lv_iload_n hx hb dX0_numberOfLadleOn_2 rfl (lv_at hl 0 rfl) ?_
        refine lv_aload_n hx hb dX0_numberOfLadleOn_3 rfl (lv_at hl 1 rfl) ?_
        refine gf_aisle_ladles (fun X => X) Fr_id cx wo  m_252 dX0_numberOfLadleOn_4 ?_
        refine alen (v := 4) (fun X => X) Fr_id cx wo (at_ls G _ _) (t0 := 2) rfl rfl dX0_numberOfLadleOn_7 ?_
        refine lv_icmp_ge (tgt := 35) hx hb dX0_numberOfLadleOn_8 (by decide) (fun h => absurd h (by decide)) (fun _ => ?_)
        refine lv_aload_n hx hb dX0_numberOfLadleOn_11 rfl (lv_at hl 1 rfl) ?_
        refine gf_aisle_ladles (fun X => X) Fr_id cx wo  m_252 dX0_numberOfLadleOn_12 ?_
        refine lv_iload_n hx hb dX0_numberOfLadleOn_15 rfl (lv_at hl 0 rfl) ?_
        refine ald_r (n := 3) (fun X => X) Fr_id cx wo (at_ls G _ _) (t0 := 2) rfl rfl (by omega) (by decide) dX0_numberOfLadleOn_16 ?_
        refine topv (y := .ref (ad (22 + 3))) rfl ?_
        refine gf_ladle_carrier (d := 3) (fun X => X) Fr_id cx wo (by omega) m_236 dX0_numberOfLadleOn_17 ?_
        refine tope (y := (g 95)) rfl ?_
        refine lv_aload_n hx hb dX0_numberOfLadleOn_20 rfl (lv_at hl 2 rfl) ?_
        refine gf_crane_number (r := r) (fun X => X) Fr_id cx wo (by omega) m_103 dX0_numberOfLadleOn_21 ?_
        refine tope (y := (nI r)) (congrArg nI (by omega)) ?_
        refine lv_icmp_ne (tgt := 29) hx hb dX0_numberOfLadleOn_24 (by decide) (fun c_4 => ?_) (fun c_4 => ?_)
        · skip
          rw [if_neg c_4] at hM
          refine lv_iinc (v := 4) (lv' := [(2, .int 4), (0, .ref (ad 12)), (1, .ref (ad (26 + r)))]) hx hb dX0_numberOfLadleOn_29 hl (k := 0) rfl (by decide) (by decide) rfl (fun ls hl => ?_)
          refine lv_goto (tgt := 2) hx hb dX0_numberOfLadleOn_32 (by decide) ?_
          refine lv_iload_n hx hb dX0_numberOfLadleOn_2 rfl (lv_at hl 0 rfl) ?_
          refine lv_aload_n hx hb dX0_numberOfLadleOn_3 rfl (lv_at hl 1 rfl) ?_
          refine gf_aisle_ladles (fun X => X) Fr_id cx wo  m_252 dX0_numberOfLadleOn_4 ?_
          refine alen (v := 4) (fun X => X) Fr_id cx wo (at_ls G _ _) (t0 := 2) rfl rfl dX0_numberOfLadleOn_7 ?_
          refine lv_icmp_ge (tgt := 35) hx hb dX0_numberOfLadleOn_8 (by decide) (fun _ => ?_) (fun h => absurd (show ¬ _ from h) (by decide))
          refine lv_bipush (v := (-4)) hx hb dX0_numberOfLadleOn_35 (by decide) ?_
          exact r2_i cx hQ wo dX0_numberOfLadleOn_37 (by subst hM; exact ⟨rfl, rfl⟩)
        · skip
          rw [if_pos c_4] at hM
          refine lv_iload_n hx hb dX0_numberOfLadleOn_27 rfl (lv_at hl 0 rfl) ?_
          exact r2_i cx hQ wo dX0_numberOfLadleOn_28 (by subst hM; exact ⟨rfl, rfl⟩)
      · skip
        rw [if_pos c_3] at hM
        refine lv_iload_n hx hb dX0_numberOfLadleOn_27 rfl (lv_at hl 0 rfl) ?_
        exact r2_i cx hQ wo dX0_numberOfLadleOn_28 (by subst hM; exact ⟨rfl, rfl⟩)
    · skip
      rw [if_pos c_2] at hM
      refine lv_iload_n hx hb dX0_numberOfLadleOn_27 rfl (lv_at hl 0 rfl) ?_
      exact r2_i cx hQ wo dX0_numberOfLadleOn_28 (by subst hM; exact ⟨rfl, rfl⟩)
  · skip
    rw [if_pos c_1] at hM
    refine lv_iload_n hx hb dX0_numberOfLadleOn_27 rfl (lv_at hl 0 rfl) ?_
    exact r2_i cx hQ wo dX0_numberOfLadleOn_28 (by subst hM; exact ⟨rfl, rfl⟩)
abbrev rm_X0_ladleStandingAt : Room := { frames := 0, cells := 0, slots := 0, locals := 0 }
def m_X0_ladleStandingAt (g : St) (n : Int32) : Option Nat :=
  if (g 92) = (-4) then (if (g 88) = n then (some 0)
    else if (g 93) = (-4) then (if (g 89) = n then (some 1)
      else if (g 94) = (-4) then (if (g 90) = n then (some 2)
        else if (g 95) = (-4) then (if (g 91) = n then (some 3)
          else none)
        else none)
      else if (g 95) = (-4) then (if (g 91) = n then (some 3)
        else none)
      else none)
    else if (g 94) = (-4) then (if (g 90) = n then (some 2)
      else if (g 95) = (-4) then (if (g 91) = n then (some 3)
        else none)
      else none)
    else if (g 95) = (-4) then (if (g 91) = n then (some 3)
      else none)
    else none)
  else if (g 93) = (-4) then (if (g 89) = n then (some 1)
    else if (g 94) = (-4) then (if (g 90) = n then (some 2)
      else if (g 95) = (-4) then (if (g 91) = n then (some 3)
        else none)
      else none)
    else if (g 95) = (-4) then (if (g 91) = n then (some 3)
      else none)
    else none)
  else if (g 94) = (-4) then (if (g 90) = n then (some 2)
    else if (g 95) = (-4) then (if (g 91) = n then (some 3)
      else none)
    else none)
  else if (g 95) = (-4) then (if (g 91) = n then (some 3)
    else none)
  else none
set_option maxHeartbeats 4000000 in
set_option maxRecDepth 100000 in
theorem c_X0_ladleStandingAt (l : Launch) (G : GG) (ad : Nat → Nat) (g : St) (n : Int32) : Ct l G yX0_ladleStandingAt cX0_ladleStandingAt 6 (some (Jvm.ClassFile.FieldType.object "HotAisle$Ladle")) rm_X0_ladleStandingAt [.ref (ad 12), .int n] (aw G ad g) (fun rv W1 => rv = some (va_rf ((m_X0_ladleStandingAt g n).map (fun q => ad (22 + q)))) ∧ W1 = aw G ad g) := by
  refine Ct.mk2 (by decide) (Nat.le_of_ble_eq_true rfl) ?_
  intro p e s m args below meth c A H locs ls Q cx wo hl hQ
  obtain ⟨hx, hb, hml, hr, hlo, hown, hts, hnm, kn, hA⟩ := id cx
  have hl : lv_has ls 6 [(0, .ref (ad 12)), (1, .int n)] := hl
  generalize hM : m_X0_ladleStandingAt g n = M at hQ
  unfold m_X0_ladleStandingAt at hM
  refine lv_aload_n hx hb dX0_ladleStandingAt_0 rfl (lv_at hl 0 rfl) ?_
  refine gf_aisle_ladles (fun X => X) Fr_id cx wo  m_252 dX0_ladleStandingAt_1 ?_
  refine lv_astore_n (lv' := [(2, .ref (ad 30)), (0, .ref (ad 12)), (1, .int n)]) hx hb dX0_ladleStandingAt_4 rfl hl (by decide) rfl (fun ls hl => ?_)
  refine lv_aload_n hx hb dX0_ladleStandingAt_5 rfl (lv_at hl 0 rfl) ?_
  refine alen (v := 4) (fun X => X) Fr_id cx wo (at_ls G _ _) (t0 := 2) rfl rfl dX0_ladleStandingAt_6 ?_
  refine lv_istore_n (lv' := [(3, .int 4), (2, .ref (ad 30)), (0, .ref (ad 12)), (1, .int n)]) hx hb dX0_ladleStandingAt_7 rfl hl (by decide) rfl (fun ls hl => ?_)
  refine lv_iconst (v := 0) hx hb dX0_ladleStandingAt_8 (by decide) ?_
  refine lv_istore (lv' := [(4, .int 0), (3, .int 4), (2, .ref (ad 30)), (0, .ref (ad 12)), (1, .int n)]) hx hb dX0_ladleStandingAt_9 hl (by decide) rfl (fun ls hl => ?_)
  refine lv_iload hx hb dX0_ladleStandingAt_11 (lv_at hl 0 rfl) ?_
  refine lv_iload_n hx hb dX0_ladleStandingAt_13 rfl (lv_at hl 1 rfl) ?_
  refine lv_icmp_ge (tgt := 51) hx hb dX0_ladleStandingAt_14 (by decide) (fun h => absurd h (by decide)) (fun _ => ?_)
  refine lv_aload_n hx hb dX0_ladleStandingAt_17 rfl (lv_at hl 2 rfl) ?_
  refine lv_iload hx hb dX0_ladleStandingAt_18 (lv_at hl 0 rfl) ?_
  refine ald_r (n := 0) (fun X => X) Fr_id cx wo (at_ls G _ _) (t0 := 2) rfl rfl (by omega) (by decide) dX0_ladleStandingAt_20 ?_
  refine topv (y := .ref (ad (22 + 0))) rfl ?_
  refine lv_astore (lv' := [(5, .ref (ad (22 + 0))), (4, .int 0), (3, .int 4), (2, .ref (ad 30)), (0, .ref (ad 12)), (1, .int n)]) hx hb dX0_ladleStandingAt_21 hl (by decide) rfl (fun ls hl => ?_)
  refine lv_aload hx hb dX0_ladleStandingAt_23 (lv_at hl 0 rfl) ?_
  refine gf_ladle_carrier (d := 0) (fun X => X) Fr_id cx wo (by omega) m_236 dX0_ladleStandingAt_25 ?_
  refine tope (y := (g 92)) rfl ?_
  refine lv_bipush (v := (-4)) hx hb dX0_ladleStandingAt_28 (by decide) ?_
  refine lv_icmp_ne (tgt := 45) hx hb dX0_ladleStandingAt_30 (by decide) (fun c_1 => ?_) (fun c_1 => ?_)
  · skip
    rw [if_neg c_1] at hM
    refine lv_iinc (v := 1) (lv' := [(4, .int 1), (5, .ref (ad (22 + 0))), (3, .int 4), (2, .ref (ad 30)), (0, .ref (ad 12)), (1, .int n)]) hx hb dX0_ladleStandingAt_45 hl (k := 1) rfl (by decide) (by decide) rfl (fun ls hl => ?_)
    refine lv_goto (tgt := 11) hx hb dX0_ladleStandingAt_48 (by decide) ?_
    refine lv_iload hx hb dX0_ladleStandingAt_11 (lv_at hl 0 rfl) ?_
    refine lv_iload_n hx hb dX0_ladleStandingAt_13 rfl (lv_at hl 2 rfl) ?_
    refine lv_icmp_ge (tgt := 51) hx hb dX0_ladleStandingAt_14 (by decide) (fun h => absurd h (by decide)) (fun _ => ?_)
    refine lv_aload_n hx hb dX0_ladleStandingAt_17 rfl (lv_at hl 3 rfl) ?_
    refine lv_iload hx hb dX0_ladleStandingAt_18 (lv_at hl 0 rfl) ?_
    refine ald_r (n := 1) (fun X => X) Fr_id cx wo (at_ls G _ _) (t0 := 2) rfl rfl (by omega) (by decide) dX0_ladleStandingAt_20 ?_
    refine topv (y := .ref (ad (22 + 1))) rfl ?_
    refine lv_astore (lv' := [(5, .ref (ad (22 + 1))), (4, .int 1), (3, .int 4), (2, .ref (ad 30)), (0, .ref (ad 12)), (1, .int n)]) hx hb dX0_ladleStandingAt_21 hl (by decide) rfl (fun ls hl => ?_)
    refine lv_aload hx hb dX0_ladleStandingAt_23 (lv_at hl 0 rfl) ?_
    refine gf_ladle_carrier (d := 1) (fun X => X) Fr_id cx wo (by omega) m_236 dX0_ladleStandingAt_25 ?_
    refine tope (y := (g 93)) rfl ?_
    refine lv_bipush (v := (-4)) hx hb dX0_ladleStandingAt_28 (by decide) ?_
    refine lv_icmp_ne (tgt := 45) hx hb dX0_ladleStandingAt_30 (by decide) (fun c_2 => ?_) (fun c_2 => ?_)
    · skip
      rw [if_neg c_2] at hM
      refine lv_iinc (v := 2) (lv' := [(4, .int 2), (5, .ref (ad (22 + 1))), (3, .int 4), (2, .ref (ad 30)), (0, .ref (ad 12)), (1, .int n)]) hx hb dX0_ladleStandingAt_45 hl (k := 1) rfl (by decide) (by decide) rfl (fun ls hl => ?_)
      refine lv_goto (tgt := 11) hx hb dX0_ladleStandingAt_48 (by decide) ?_
      refine lv_iload hx hb dX0_ladleStandingAt_11 (lv_at hl 0 rfl) ?_
      refine lv_iload_n hx hb dX0_ladleStandingAt_13 rfl (lv_at hl 2 rfl) ?_
      refine lv_icmp_ge (tgt := 51) hx hb dX0_ladleStandingAt_14 (by decide) (fun h => absurd h (by decide)) (fun _ => ?_)
      refine lv_aload_n hx hb dX0_ladleStandingAt_17 rfl (lv_at hl 3 rfl) ?_
      refine lv_iload hx hb dX0_ladleStandingAt_18 (lv_at hl 0 rfl) ?_
      refine ald_r (n := 2) (fun X => X) Fr_id cx wo (at_ls G _ _) (t0 := 2) rfl rfl (by omega) (by decide) dX0_ladleStandingAt_20 ?_
      refine topv (y := .ref (ad (22 + 2))) rfl ?_
      refine lv_astore (lv' := [(5, .ref (ad (22 + 2))), (4, .int 2), (3, .int 4), (2, .ref (ad 30)), (0, .ref (ad 12)), (1, .int n)]) hx hb dX0_ladleStandingAt_21 hl (by decide) rfl (fun ls hl => ?_)
      refine lv_aload hx hb dX0_ladleStandingAt_23 (lv_at hl 0 rfl) ?_
      refine gf_ladle_carrier (d := 2) (fun X => X) Fr_id cx wo (by omega) m_236 dX0_ladleStandingAt_25 ?_
      refine tope (y := (g 94)) rfl ?_
      refine lv_bipush (v := (-4)) hx hb dX0_ladleStandingAt_28 (by decide) ?_
      refine lv_icmp_ne (tgt := 45) hx hb dX0_ladleStandingAt_30 (by decide) (fun c_3 => ?_) (fun c_3 => ?_)
      · skip
        rw [if_neg c_3] at hM
        refine lv_iinc (v := 3) (lv' := [(4, .int 3), (5, .ref (ad (22 + 2))), (3, .int 4), (2, .ref (ad 30)), (0, .ref (ad 12)), (1, .int n)]) hx hb dX0_ladleStandingAt_45 hl (k := 1) rfl (by decide) (by decide) rfl (fun ls hl => ?_)
        refine lv_goto (tgt := 11) hx hb dX0_ladleStandingAt_48 (by decide) ?_
        refine lv_iload hx hb dX0_ladleStandingAt_11 (lv_at hl 0 rfl) ?_
        refine lv_iload_n hx hb dX0_ladleStandingAt_13 rfl (lv_at hl 2 rfl) ?_
        refine lv_icmp_ge (tgt := 51) hx hb dX0_ladleStandingAt_14 (by decide) (fun h => absurd h (by decide)) (fun _ => ?_)
        refine lv_aload_n hx hb dX0_ladleStandingAt_17 rfl (lv_at hl 3 rfl) ?_
        refine lv_iload hx hb dX0_ladleStandingAt_18 (lv_at hl 0 rfl) ?_
        refine ald_r (n := 3) (fun X => X) Fr_id cx wo (at_ls G _ _) (t0 := 2) rfl rfl (by omega) (by decide) dX0_ladleStandingAt_20 ?_
        refine topv (y := .ref (ad (22 + 3))) rfl ?_
        refine lv_astore (lv' := [(5, .ref (ad (22 + 3))), (4, .int 3), (3, .int 4), (2, .ref (ad 30)), (0, .ref (ad 12)), (1, .int n)]) hx hb dX0_ladleStandingAt_21 hl (by decide) rfl (fun ls hl => ?_)
        refine lv_aload hx hb dX0_ladleStandingAt_23 (lv_at hl 0 rfl) ?_
        refine gf_ladle_carrier (d := 3) (fun X => X) Fr_id cx wo (by omega) m_236 dX0_ladleStandingAt_25 ?_
        refine tope (y := (g 95)) rfl ?_
        refine lv_bipush (v := (-4)) hx hb dX0_ladleStandingAt_28 (by decide) ?_
        refine lv_icmp_ne (tgt := 45) hx hb dX0_ladleStandingAt_30 (by decide) (fun c_4 => ?_) (fun c_4 => ?_)
        · skip
          rw [if_neg c_4] at hM
          refine lv_iinc (v := 4) (lv' := [(4, .int 4), (5, .ref (ad (22 + 3))), (3, .int 4), (2, .ref (ad 30)), (0, .ref (ad 12)), (1, .int n)]) hx hb dX0_ladleStandingAt_45 hl (k := 1) rfl (by decide) (by decide) rfl (fun ls hl => ?_)
          refine lv_goto (tgt := 11) hx hb dX0_ladleStandingAt_48 (by decide) ?_
          refine lv_iload hx hb dX0_ladleStandingAt_11 (lv_at hl 0 rfl) ?_
          refine lv_iload_n hx hb dX0_ladleStandingAt_13 rfl (lv_at hl 2 rfl) ?_
          refine lv_icmp_ge (tgt := 51) hx hb dX0_ladleStandingAt_14 (by decide) (fun _ => ?_) (fun h => absurd (show ¬ _ from h) (by decide))
          refine lv_null hx hb dX0_ladleStandingAt_51 ?_
          exact r2_a (r := none) cx hQ wo dX0_ladleStandingAt_52 (by subst hM; exact ⟨rfl, rfl⟩)
        · skip
          rw [if_pos c_4] at hM
          refine lv_aload hx hb dX0_ladleStandingAt_33 (lv_at hl 0 rfl) ?_
          refine gf_ladle_place (d := 3) (fun X => X) Fr_id cx wo (by omega) m_234 dX0_ladleStandingAt_35 ?_
          refine tope (y := (g 91)) rfl ?_
          refine lv_iload_n hx hb dX0_ladleStandingAt_38 rfl (lv_at hl 5 rfl) ?_
          refine lv_icmp_ne (tgt := 45) hx hb dX0_ladleStandingAt_39 (by decide) (fun c_5 => ?_) (fun c_5 => ?_)
          · skip
            rw [if_neg c_5] at hM
            refine lv_iinc (v := 4) (lv' := [(4, .int 4), (5, .ref (ad (22 + 3))), (3, .int 4), (2, .ref (ad 30)), (0, .ref (ad 12)), (1, .int n)]) hx hb dX0_ladleStandingAt_45 hl (k := 1) rfl (by decide) (by decide) rfl (fun ls hl => ?_)
            refine lv_goto (tgt := 11) hx hb dX0_ladleStandingAt_48 (by decide) ?_
            refine lv_iload hx hb dX0_ladleStandingAt_11 (lv_at hl 0 rfl) ?_
            refine lv_iload_n hx hb dX0_ladleStandingAt_13 rfl (lv_at hl 2 rfl) ?_
            refine lv_icmp_ge (tgt := 51) hx hb dX0_ladleStandingAt_14 (by decide) (fun _ => ?_) (fun h => absurd (show ¬ _ from h) (by decide))
            refine lv_null hx hb dX0_ladleStandingAt_51 ?_
            exact r2_a (r := none) cx hQ wo dX0_ladleStandingAt_52 (by subst hM; exact ⟨rfl, rfl⟩)
          · skip
            rw [if_pos c_5] at hM
            refine lv_aload hx hb dX0_ladleStandingAt_42 (lv_at hl 0 rfl) ?_
            exact r2_a (r := some (ad (22 + 3))) cx hQ wo dX0_ladleStandingAt_44 (by subst hM; exact ⟨rfl, rfl⟩)
      · skip
        rw [if_pos c_3] at hM
        refine lv_aload hx hb dX0_ladleStandingAt_33 (lv_at hl 0 rfl) ?_
        refine gf_ladle_place (d := 2) (fun X => X) Fr_id cx wo (by omega) m_234 dX0_ladleStandingAt_35 ?_
        refine tope (y := (g 90)) rfl ?_
        refine lv_iload_n hx hb dX0_ladleStandingAt_38 rfl (lv_at hl 5 rfl) ?_
        refine lv_icmp_ne (tgt := 45) hx hb dX0_ladleStandingAt_39 (by decide) (fun c_6 => ?_) (fun c_6 => ?_)
        · skip
          rw [if_neg c_6] at hM
          refine lv_iinc (v := 3) (lv' := [(4, .int 3), (5, .ref (ad (22 + 2))), (3, .int 4), (2, .ref (ad 30)), (0, .ref (ad 12)), (1, .int n)]) hx hb dX0_ladleStandingAt_45 hl (k := 1) rfl (by decide) (by decide) rfl (fun ls hl => ?_)
          refine lv_goto (tgt := 11) hx hb dX0_ladleStandingAt_48 (by decide) ?_
          refine lv_iload hx hb dX0_ladleStandingAt_11 (lv_at hl 0 rfl) ?_
          refine lv_iload_n hx hb dX0_ladleStandingAt_13 rfl (lv_at hl 2 rfl) ?_
          refine lv_icmp_ge (tgt := 51) hx hb dX0_ladleStandingAt_14 (by decide) (fun h => absurd h (by decide)) (fun _ => ?_)
          refine lv_aload_n hx hb dX0_ladleStandingAt_17 rfl (lv_at hl 3 rfl) ?_
          refine lv_iload hx hb dX0_ladleStandingAt_18 (lv_at hl 0 rfl) ?_
          refine ald_r (n := 3) (fun X => X) Fr_id cx wo (at_ls G _ _) (t0 := 2) rfl rfl (by omega) (by decide) dX0_ladleStandingAt_20 ?_
          refine topv (y := .ref (ad (22 + 3))) rfl ?_
          refine lv_astore (lv' := [(5, .ref (ad (22 + 3))), (4, .int 3), (3, .int 4), (2, .ref (ad 30)), (0, .ref (ad 12)), (1, .int n)]) hx hb dX0_ladleStandingAt_21 hl (by decide) rfl (fun ls hl => ?_)
          refine lv_aload hx hb dX0_ladleStandingAt_23 (lv_at hl 0 rfl) ?_
          refine gf_ladle_carrier (d := 3) (fun X => X) Fr_id cx wo (by omega) m_236 dX0_ladleStandingAt_25 ?_
          refine tope (y := (g 95)) rfl ?_
          refine lv_bipush (v := (-4)) hx hb dX0_ladleStandingAt_28 (by decide) ?_
          refine lv_icmp_ne (tgt := 45) hx hb dX0_ladleStandingAt_30 (by decide) (fun c_7 => ?_) (fun c_7 => ?_)
          · skip
            rw [if_neg c_7] at hM
            refine lv_iinc (v := 4) (lv' := [(4, .int 4), (5, .ref (ad (22 + 3))), (3, .int 4), (2, .ref (ad 30)), (0, .ref (ad 12)), (1, .int n)]) hx hb dX0_ladleStandingAt_45 hl (k := 1) rfl (by decide) (by decide) rfl (fun ls hl => ?_)
            refine lv_goto (tgt := 11) hx hb dX0_ladleStandingAt_48 (by decide) ?_
            refine lv_iload hx hb dX0_ladleStandingAt_11 (lv_at hl 0 rfl) ?_
            refine lv_iload_n hx hb dX0_ladleStandingAt_13 rfl (lv_at hl 2 rfl) ?_
            refine lv_icmp_ge (tgt := 51) hx hb dX0_ladleStandingAt_14 (by decide) (fun _ => ?_) (fun h => absurd (show ¬ _ from h) (by decide))
            refine lv_null hx hb dX0_ladleStandingAt_51 ?_
            exact r2_a (r := none) cx hQ wo dX0_ladleStandingAt_52 (by subst hM; exact ⟨rfl, rfl⟩)
          · skip
            rw [if_pos c_7] at hM
            refine lv_aload hx hb dX0_ladleStandingAt_33 (lv_at hl 0 rfl) ?_
            refine gf_ladle_place (d := 3) (fun X => X) Fr_id cx wo (by omega) m_234 dX0_ladleStandingAt_35 ?_
            refine tope (y := (g 91)) rfl ?_
            refine lv_iload_n hx hb dX0_ladleStandingAt_38 rfl (lv_at hl 5 rfl) ?_
            refine lv_icmp_ne (tgt := 45) hx hb dX0_ladleStandingAt_39 (by decide) (fun c_8 => ?_) (fun c_8 => ?_)
            · skip
              rw [if_neg c_8] at hM
              refine lv_iinc (v := 4) (lv' := [(4, .int 4), (5, .ref (ad (22 + 3))), (3, .int 4), (2, .ref (ad 30)), (0, .ref (ad 12)), (1, .int n)]) hx hb dX0_ladleStandingAt_45 hl (k := 1) rfl (by decide) (by decide) rfl (fun ls hl => ?_)
              refine lv_goto (tgt := 11) hx hb dX0_ladleStandingAt_48 (by decide) ?_
              refine lv_iload hx hb dX0_ladleStandingAt_11 (lv_at hl 0 rfl) ?_
              refine lv_iload_n hx hb dX0_ladleStandingAt_13 rfl (lv_at hl 2 rfl) ?_
              refine lv_icmp_ge (tgt := 51) hx hb dX0_ladleStandingAt_14 (by decide) (fun _ => ?_) (fun h => absurd (show ¬ _ from h) (by decide))
              refine lv_null hx hb dX0_ladleStandingAt_51 ?_
              exact r2_a (r := none) cx hQ wo dX0_ladleStandingAt_52 (by subst hM; exact ⟨rfl, rfl⟩)
            · skip
              rw [if_pos c_8] at hM
              refine lv_aload hx hb dX0_ladleStandingAt_42 (lv_at hl 0 rfl) ?_
              exact r2_a (r := some (ad (22 + 3))) cx hQ wo dX0_ladleStandingAt_44 (by subst hM; exact ⟨rfl, rfl⟩)
        · skip
          rw [if_pos c_6] at hM
          refine lv_aload hx hb dX0_ladleStandingAt_42 (lv_at hl 0 rfl) ?_
          exact r2_a (r := some (ad (22 + 2))) cx hQ wo dX0_ladleStandingAt_44 (by subst hM; exact ⟨rfl, rfl⟩)
    · skip
      rw [if_pos c_2] at hM
      refine lv_aload hx hb dX0_ladleStandingAt_33 (lv_at hl 0 rfl) ?_
      refine gf_ladle_place (d := 1) (fun X => X) Fr_id cx wo (by omega) m_234 dX0_ladleStandingAt_35 ?_
      refine tope (y := (g 89)) rfl ?_
      refine lv_iload_n hx hb dX0_ladleStandingAt_38 rfl (lv_at hl 5 rfl) ?_
      refine lv_icmp_ne (tgt := 45) hx hb dX0_ladleStandingAt_39 (by decide) (fun c_9 => ?_) (fun c_9 => ?_)
      · skip
        rw [if_neg c_9] at hM
        refine lv_iinc (v := 2) (lv' := [(4, .int 2), (5, .ref (ad (22 + 1))), (3, .int 4), (2, .ref (ad 30)), (0, .ref (ad 12)), (1, .int n)]) hx hb dX0_ladleStandingAt_45 hl (k := 1) rfl (by decide) (by decide) rfl (fun ls hl => ?_)
        refine lv_goto (tgt := 11) hx hb dX0_ladleStandingAt_48 (by decide) ?_
        refine lv_iload hx hb dX0_ladleStandingAt_11 (lv_at hl 0 rfl) ?_
        refine lv_iload_n hx hb dX0_ladleStandingAt_13 rfl (lv_at hl 2 rfl) ?_
        refine lv_icmp_ge (tgt := 51) hx hb dX0_ladleStandingAt_14 (by decide) (fun h => absurd h (by decide)) (fun _ => ?_)
        refine lv_aload_n hx hb dX0_ladleStandingAt_17 rfl (lv_at hl 3 rfl) ?_
        refine lv_iload hx hb dX0_ladleStandingAt_18 (lv_at hl 0 rfl) ?_
        refine ald_r (n := 2) (fun X => X) Fr_id cx wo (at_ls G _ _) (t0 := 2) rfl rfl (by omega) (by decide) dX0_ladleStandingAt_20 ?_
        refine topv (y := .ref (ad (22 + 2))) rfl ?_
        refine lv_astore (lv' := [(5, .ref (ad (22 + 2))), (4, .int 2), (3, .int 4), (2, .ref (ad 30)), (0, .ref (ad 12)), (1, .int n)]) hx hb dX0_ladleStandingAt_21 hl (by decide) rfl (fun ls hl => ?_)
        refine lv_aload hx hb dX0_ladleStandingAt_23 (lv_at hl 0 rfl) ?_
        refine gf_ladle_carrier (d := 2) (fun X => X) Fr_id cx wo (by omega) m_236 dX0_ladleStandingAt_25 ?_
        refine tope (y := (g 94)) rfl ?_
        refine lv_bipush (v := (-4)) hx hb dX0_ladleStandingAt_28 (by decide) ?_
        refine lv_icmp_ne (tgt := 45) hx hb dX0_ladleStandingAt_30 (by decide) (fun c_10 => ?_) (fun c_10 => ?_)
        · skip
          rw [if_neg c_10] at hM
          refine lv_iinc (v := 3) (lv' := [(4, .int 3), (5, .ref (ad (22 + 2))), (3, .int 4), (2, .ref (ad 30)), (0, .ref (ad 12)), (1, .int n)]) hx hb dX0_ladleStandingAt_45 hl (k := 1) rfl (by decide) (by decide) rfl (fun ls hl => ?_)
          refine lv_goto (tgt := 11) hx hb dX0_ladleStandingAt_48 (by decide) ?_
          refine lv_iload hx hb dX0_ladleStandingAt_11 (lv_at hl 0 rfl) ?_
          refine lv_iload_n hx hb dX0_ladleStandingAt_13 rfl (lv_at hl 2 rfl) ?_
          refine lv_icmp_ge (tgt := 51) hx hb dX0_ladleStandingAt_14 (by decide) (fun h => absurd h (by decide)) (fun _ => ?_)
          refine lv_aload_n hx hb dX0_ladleStandingAt_17 rfl (lv_at hl 3 rfl) ?_
          refine lv_iload hx hb dX0_ladleStandingAt_18 (lv_at hl 0 rfl) ?_
          refine ald_r (n := 3) (fun X => X) Fr_id cx wo (at_ls G _ _) (t0 := 2) rfl rfl (by omega) (by decide) dX0_ladleStandingAt_20 ?_
          refine topv (y := .ref (ad (22 + 3))) rfl ?_
          refine lv_astore (lv' := [(5, .ref (ad (22 + 3))), (4, .int 3), (3, .int 4), (2, .ref (ad 30)), (0, .ref (ad 12)), (1, .int n)]) hx hb dX0_ladleStandingAt_21 hl (by decide) rfl (fun ls hl => ?_)
          refine lv_aload hx hb dX0_ladleStandingAt_23 (lv_at hl 0 rfl) ?_
          refine gf_ladle_carrier (d := 3) (fun X => X) Fr_id cx wo (by omega) m_236 dX0_ladleStandingAt_25 ?_
          refine tope (y := (g 95)) rfl ?_
          refine lv_bipush (v := (-4)) hx hb dX0_ladleStandingAt_28 (by decide) ?_
          refine lv_icmp_ne (tgt := 45) hx hb dX0_ladleStandingAt_30 (by decide) (fun c_11 => ?_) (fun c_11 => ?_)
          · skip
            rw [if_neg c_11] at hM
            refine lv_iinc (v := 4) (lv' := [(4, .int 4), (5, .ref (ad (22 + 3))), (3, .int 4), (2, .ref (ad 30)), (0, .ref (ad 12)), (1, .int n)]) hx hb dX0_ladleStandingAt_45 hl (k := 1) rfl (by decide) (by decide) rfl (fun ls hl => ?_)
            refine lv_goto (tgt := 11) hx hb dX0_ladleStandingAt_48 (by decide) ?_
            refine lv_iload hx hb dX0_ladleStandingAt_11 (lv_at hl 0 rfl) ?_
            refine lv_iload_n hx hb dX0_ladleStandingAt_13 rfl (lv_at hl 2 rfl) ?_
            refine lv_icmp_ge (tgt := 51) hx hb dX0_ladleStandingAt_14 (by decide) (fun _ => ?_) (fun h => absurd (show ¬ _ from h) (by decide))
            refine lv_null hx hb dX0_ladleStandingAt_51 ?_
            exact r2_a (r := none) cx hQ wo dX0_ladleStandingAt_52 (by subst hM; exact ⟨rfl, rfl⟩)
          · skip
            rw [if_pos c_11] at hM
            refine lv_aload hx hb dX0_ladleStandingAt_33 (lv_at hl 0 rfl) ?_
            refine gf_ladle_place (d := 3) (fun X => X) Fr_id cx wo (by omega) m_234 dX0_ladleStandingAt_35 ?_
            refine tope (y := (g 91)) rfl ?_
            refine lv_iload_n hx hb dX0_ladleStandingAt_38 rfl (lv_at hl 5 rfl) ?_
            refine lv_icmp_ne (tgt := 45) hx hb dX0_ladleStandingAt_39 (by decide) (fun c_12 => ?_) (fun c_12 => ?_)
            · skip
              rw [if_neg c_12] at hM
              refine lv_iinc (v := 4) (lv' := [(4, .int 4), (5, .ref (ad (22 + 3))), (3, .int 4), (2, .ref (ad 30)), (0, .ref (ad 12)), (1, .int n)]) hx hb dX0_ladleStandingAt_45 hl (k := 1) rfl (by decide) (by decide) rfl (fun ls hl => ?_)
              refine lv_goto (tgt := 11) hx hb dX0_ladleStandingAt_48 (by decide) ?_
              refine lv_iload hx hb dX0_ladleStandingAt_11 (lv_at hl 0 rfl) ?_
              refine lv_iload_n hx hb dX0_ladleStandingAt_13 rfl (lv_at hl 2 rfl) ?_
              refine lv_icmp_ge (tgt := 51) hx hb dX0_ladleStandingAt_14 (by decide) (fun _ => ?_) (fun h => absurd (show ¬ _ from h) (by decide))
              refine lv_null hx hb dX0_ladleStandingAt_51 ?_
              exact r2_a (r := none) cx hQ wo dX0_ladleStandingAt_52 (by subst hM; exact ⟨rfl, rfl⟩)
            · skip
              rw [if_pos c_12] at hM
              refine lv_aload hx hb dX0_ladleStandingAt_42 (lv_at hl 0 rfl) ?_
              exact r2_a (r := some (ad (22 + 3))) cx hQ wo dX0_ladleStandingAt_44 (by subst hM; exact ⟨rfl, rfl⟩)
        · skip
          rw [if_pos c_10] at hM
          refine lv_aload hx hb dX0_ladleStandingAt_33 (lv_at hl 0 rfl) ?_
          refine gf_ladle_place (d := 2) (fun X => X) Fr_id cx wo (by omega) m_234 dX0_ladleStandingAt_35 ?_
          refine tope (y := (g 90)) rfl ?_
          refine lv_iload_n hx hb dX0_ladleStandingAt_38 rfl (lv_at hl 5 rfl) ?_
          refine lv_icmp_ne (tgt := 45) hx hb dX0_ladleStandingAt_39 (by decide) (fun c_13 => ?_) (fun c_13 => ?_)
          · skip
            rw [if_neg c_13] at hM
            refine lv_iinc (v := 3) (lv' := [(4, .int 3), (5, .ref (ad (22 + 2))), (3, .int 4), (2, .ref (ad 30)), (0, .ref (ad 12)), (1, .int n)]) hx hb dX0_ladleStandingAt_45 hl (k := 1) rfl (by decide) (by decide) rfl (fun ls hl => ?_)
            refine lv_goto (tgt := 11) hx hb dX0_ladleStandingAt_48 (by decide) ?_
            refine lv_iload hx hb dX0_ladleStandingAt_11 (lv_at hl 0 rfl) ?_
            refine lv_iload_n hx hb dX0_ladleStandingAt_13 rfl (lv_at hl 2 rfl) ?_
            refine lv_icmp_ge (tgt := 51) hx hb dX0_ladleStandingAt_14 (by decide) (fun h => absurd h (by decide)) (fun _ => ?_)
            refine lv_aload_n hx hb dX0_ladleStandingAt_17 rfl (lv_at hl 3 rfl) ?_
            refine lv_iload hx hb dX0_ladleStandingAt_18 (lv_at hl 0 rfl) ?_
            refine ald_r (n := 3) (fun X => X) Fr_id cx wo (at_ls G _ _) (t0 := 2) rfl rfl (by omega) (by decide) dX0_ladleStandingAt_20 ?_
            refine topv (y := .ref (ad (22 + 3))) rfl ?_
            refine lv_astore (lv' := [(5, .ref (ad (22 + 3))), (4, .int 3), (3, .int 4), (2, .ref (ad 30)), (0, .ref (ad 12)), (1, .int n)]) hx hb dX0_ladleStandingAt_21 hl (by decide) rfl (fun ls hl => ?_)
            refine lv_aload hx hb dX0_ladleStandingAt_23 (lv_at hl 0 rfl) ?_
            refine gf_ladle_carrier (d := 3) (fun X => X) Fr_id cx wo (by omega) m_236 dX0_ladleStandingAt_25 ?_
            refine tope (y := (g 95)) rfl ?_
            refine lv_bipush (v := (-4)) hx hb dX0_ladleStandingAt_28 (by decide) ?_
            refine lv_icmp_ne (tgt := 45) hx hb dX0_ladleStandingAt_30 (by decide) (fun c_14 => ?_) (fun c_14 => ?_)
            · skip
              rw [if_neg c_14] at hM
              refine lv_iinc (v := 4) (lv' := [(4, .int 4), (5, .ref (ad (22 + 3))), (3, .int 4), (2, .ref (ad 30)), (0, .ref (ad 12)), (1, .int n)]) hx hb dX0_ladleStandingAt_45 hl (k := 1) rfl (by decide) (by decide) rfl (fun ls hl => ?_)
              refine lv_goto (tgt := 11) hx hb dX0_ladleStandingAt_48 (by decide) ?_
              refine lv_iload hx hb dX0_ladleStandingAt_11 (lv_at hl 0 rfl) ?_
              refine lv_iload_n hx hb dX0_ladleStandingAt_13 rfl (lv_at hl 2 rfl) ?_
              refine lv_icmp_ge (tgt := 51) hx hb dX0_ladleStandingAt_14 (by decide) (fun _ => ?_) (fun h => absurd (show ¬ _ from h) (by decide))
              refine lv_null hx hb dX0_ladleStandingAt_51 ?_
              exact r2_a (r := none) cx hQ wo dX0_ladleStandingAt_52 (by subst hM; exact ⟨rfl, rfl⟩)
            · skip
              rw [if_pos c_14] at hM
              refine lv_aload hx hb dX0_ladleStandingAt_33 (lv_at hl 0 rfl) ?_
              refine gf_ladle_place (d := 3) (fun X => X) Fr_id cx wo (by omega) m_234 dX0_ladleStandingAt_35 ?_
              refine tope (y := (g 91)) rfl ?_
              refine lv_iload_n hx hb dX0_ladleStandingAt_38 rfl (lv_at hl 5 rfl) ?_
              refine lv_icmp_ne (tgt := 45) hx hb dX0_ladleStandingAt_39 (by decide) (fun c_15 => ?_) (fun c_15 => ?_)
              · skip
                rw [if_neg c_15] at hM
                refine lv_iinc (v := 4) (lv' := [(4, .int 4), (5, .ref (ad (22 + 3))), (3, .int 4), (2, .ref (ad 30)), (0, .ref (ad 12)), (1, .int n)]) hx hb dX0_ladleStandingAt_45 hl (k := 1) rfl (by decide) (by decide) rfl (fun ls hl => ?_)
                refine lv_goto (tgt := 11) hx hb dX0_ladleStandingAt_48 (by decide) ?_
                refine lv_iload hx hb dX0_ladleStandingAt_11 (lv_at hl 0 rfl) ?_
                refine lv_iload_n hx hb dX0_ladleStandingAt_13 rfl (lv_at hl 2 rfl) ?_
                refine lv_icmp_ge (tgt := 51) hx hb dX0_ladleStandingAt_14 (by decide) (fun _ => ?_) (fun h => absurd (show ¬ _ from h) (by decide))
                refine lv_null hx hb dX0_ladleStandingAt_51 ?_
                exact r2_a (r := none) cx hQ wo dX0_ladleStandingAt_52 (by subst hM; exact ⟨rfl, rfl⟩)
              · skip
                rw [if_pos c_15] at hM
                refine lv_aload hx hb dX0_ladleStandingAt_42 (lv_at hl 0 rfl) ?_
                exact r2_a (r := some (ad (22 + 3))) cx hQ wo dX0_ladleStandingAt_44 (by subst hM; exact ⟨rfl, rfl⟩)
          · skip
            rw [if_pos c_13] at hM
            refine lv_aload hx hb dX0_ladleStandingAt_42 (lv_at hl 0 rfl) ?_
            exact r2_a (r := some (ad (22 + 2))) cx hQ wo dX0_ladleStandingAt_44 (by subst hM; exact ⟨rfl, rfl⟩)
      · skip
        rw [if_pos c_9] at hM
        refine lv_aload hx hb dX0_ladleStandingAt_42 (lv_at hl 0 rfl) ?_
        exact r2_a (r := some (ad (22 + 1))) cx hQ wo dX0_ladleStandingAt_44 (by subst hM; exact ⟨rfl, rfl⟩)
  · skip
    rw [if_pos c_1] at hM
    refine lv_aload hx hb dX0_ladleStandingAt_33 (lv_at hl 0 rfl) ?_
    refine gf_ladle_place (d := 0) (fun X => X) Fr_id cx wo (by omega) m_234 dX0_ladleStandingAt_35 ?_
    refine tope (y := (g 88)) rfl ?_
    refine lv_iload_n hx hb dX0_ladleStandingAt_38 rfl (lv_at hl 5 rfl) ?_
    refine lv_icmp_ne (tgt := 45) hx hb dX0_ladleStandingAt_39 (by decide) (fun c_16 => ?_) (fun c_16 => ?_)
    · skip
      rw [if_neg c_16] at hM
      refine lv_iinc (v := 1) (lv' := [(4, .int 1), (5, .ref (ad (22 + 0))), (3, .int 4), (2, .ref (ad 30)), (0, .ref (ad 12)), (1, .int n)]) hx hb dX0_ladleStandingAt_45 hl (k := 1) rfl (by decide) (by decide) rfl (fun ls hl => ?_)
      refine lv_goto (tgt := 11) hx hb dX0_ladleStandingAt_48 (by decide) ?_
      refine lv_iload hx hb dX0_ladleStandingAt_11 (lv_at hl 0 rfl) ?_
      refine lv_iload_n hx hb dX0_ladleStandingAt_13 rfl (lv_at hl 2 rfl) ?_
      refine lv_icmp_ge (tgt := 51) hx hb dX0_ladleStandingAt_14 (by decide) (fun h => absurd h (by decide)) (fun _ => ?_)
      refine lv_aload_n hx hb dX0_ladleStandingAt_17 rfl (lv_at hl 3 rfl) ?_
      refine lv_iload hx hb dX0_ladleStandingAt_18 (lv_at hl 0 rfl) ?_
      refine ald_r (n := 1) (fun X => X) Fr_id cx wo (at_ls G _ _) (t0 := 2) rfl rfl (by omega) (by decide) dX0_ladleStandingAt_20 ?_
      refine topv (y := .ref (ad (22 + 1))) rfl ?_
      refine lv_astore (lv' := [(5, .ref (ad (22 + 1))), (4, .int 1), (3, .int 4), (2, .ref (ad 30)), (0, .ref (ad 12)), (1, .int n)]) hx hb dX0_ladleStandingAt_21 hl (by decide) rfl (fun ls hl => ?_)
      refine lv_aload hx hb dX0_ladleStandingAt_23 (lv_at hl 0 rfl) ?_
      refine gf_ladle_carrier (d := 1) (fun X => X) Fr_id cx wo (by omega) m_236 dX0_ladleStandingAt_25 ?_
      refine tope (y := (g 93)) rfl ?_
      refine lv_bipush (v := (-4)) hx hb dX0_ladleStandingAt_28 (by decide) ?_
      refine lv_icmp_ne (tgt := 45) hx hb dX0_ladleStandingAt_30 (by decide) (fun c_17 => ?_) (fun c_17 => ?_)
      · skip
        rw [if_neg c_17] at hM
        refine lv_iinc (v := 2) (lv' := [(4, .int 2), (5, .ref (ad (22 + 1))), (3, .int 4), (2, .ref (ad 30)), (0, .ref (ad 12)), (1, .int n)]) hx hb dX0_ladleStandingAt_45 hl (k := 1) rfl (by decide) (by decide) rfl (fun ls hl => ?_)
        refine lv_goto (tgt := 11) hx hb dX0_ladleStandingAt_48 (by decide) ?_
        refine lv_iload hx hb dX0_ladleStandingAt_11 (lv_at hl 0 rfl) ?_
        refine lv_iload_n hx hb dX0_ladleStandingAt_13 rfl (lv_at hl 2 rfl) ?_
        refine lv_icmp_ge (tgt := 51) hx hb dX0_ladleStandingAt_14 (by decide) (fun h => absurd h (by decide)) (fun _ => ?_)
        refine lv_aload_n hx hb dX0_ladleStandingAt_17 rfl (lv_at hl 3 rfl) ?_
        refine lv_iload hx hb dX0_ladleStandingAt_18 (lv_at hl 0 rfl) ?_
        refine ald_r (n := 2) (fun X => X) Fr_id cx wo (at_ls G _ _) (t0 := 2) rfl rfl (by omega) (by decide) dX0_ladleStandingAt_20 ?_
        refine topv (y := .ref (ad (22 + 2))) rfl ?_
        refine lv_astore (lv' := [(5, .ref (ad (22 + 2))), (4, .int 2), (3, .int 4), (2, .ref (ad 30)), (0, .ref (ad 12)), (1, .int n)]) hx hb dX0_ladleStandingAt_21 hl (by decide) rfl (fun ls hl => ?_)
        refine lv_aload hx hb dX0_ladleStandingAt_23 (lv_at hl 0 rfl) ?_
        refine gf_ladle_carrier (d := 2) (fun X => X) Fr_id cx wo (by omega) m_236 dX0_ladleStandingAt_25 ?_
        refine tope (y := (g 94)) rfl ?_
        refine lv_bipush (v := (-4)) hx hb dX0_ladleStandingAt_28 (by decide) ?_
        refine lv_icmp_ne (tgt := 45) hx hb dX0_ladleStandingAt_30 (by decide) (fun c_18 => ?_) (fun c_18 => ?_)
        · skip
          rw [if_neg c_18] at hM
          refine lv_iinc (v := 3) (lv' := [(4, .int 3), (5, .ref (ad (22 + 2))), (3, .int 4), (2, .ref (ad 30)), (0, .ref (ad 12)), (1, .int n)]) hx hb dX0_ladleStandingAt_45 hl (k := 1) rfl (by decide) (by decide) rfl (fun ls hl => ?_)
          refine lv_goto (tgt := 11) hx hb dX0_ladleStandingAt_48 (by decide) ?_
          refine lv_iload hx hb dX0_ladleStandingAt_11 (lv_at hl 0 rfl) ?_
          refine lv_iload_n hx hb dX0_ladleStandingAt_13 rfl (lv_at hl 2 rfl) ?_
          refine lv_icmp_ge (tgt := 51) hx hb dX0_ladleStandingAt_14 (by decide) (fun h => absurd h (by decide)) (fun _ => ?_)
          refine lv_aload_n hx hb dX0_ladleStandingAt_17 rfl (lv_at hl 3 rfl) ?_
          refine lv_iload hx hb dX0_ladleStandingAt_18 (lv_at hl 0 rfl) ?_
          refine ald_r (n := 3) (fun X => X) Fr_id cx wo (at_ls G _ _) (t0 := 2) rfl rfl (by omega) (by decide) dX0_ladleStandingAt_20 ?_
          refine topv (y := .ref (ad (22 + 3))) rfl ?_
          refine lv_astore (lv' := [(5, .ref (ad (22 + 3))), (4, .int 3), (3, .int 4), (2, .ref (ad 30)), (0, .ref (ad 12)), (1, .int n)]) hx hb dX0_ladleStandingAt_21 hl (by decide) rfl (fun ls hl => ?_)
          refine lv_aload hx hb dX0_ladleStandingAt_23 (lv_at hl 0 rfl) ?_
          refine gf_ladle_carrier (d := 3) (fun X => X) Fr_id cx wo (by omega) m_236 dX0_ladleStandingAt_25 ?_
          refine tope (y := (g 95)) rfl ?_
          refine lv_bipush (v := (-4)) hx hb dX0_ladleStandingAt_28 (by decide) ?_
          refine lv_icmp_ne (tgt := 45) hx hb dX0_ladleStandingAt_30 (by decide) (fun c_19 => ?_) (fun c_19 => ?_)
          · skip
            rw [if_neg c_19] at hM
            refine lv_iinc (v := 4) (lv' := [(4, .int 4), (5, .ref (ad (22 + 3))), (3, .int 4), (2, .ref (ad 30)), (0, .ref (ad 12)), (1, .int n)]) hx hb dX0_ladleStandingAt_45 hl (k := 1) rfl (by decide) (by decide) rfl (fun ls hl => ?_)
            refine lv_goto (tgt := 11) hx hb dX0_ladleStandingAt_48 (by decide) ?_
            refine lv_iload hx hb dX0_ladleStandingAt_11 (lv_at hl 0 rfl) ?_
            refine lv_iload_n hx hb dX0_ladleStandingAt_13 rfl (lv_at hl 2 rfl) ?_
            refine lv_icmp_ge (tgt := 51) hx hb dX0_ladleStandingAt_14 (by decide) (fun _ => ?_) (fun h => absurd (show ¬ _ from h) (by decide))
            refine lv_null hx hb dX0_ladleStandingAt_51 ?_
            exact r2_a (r := none) cx hQ wo dX0_ladleStandingAt_52 (by subst hM; exact ⟨rfl, rfl⟩)
          · skip
            rw [if_pos c_19] at hM
            refine lv_aload hx hb dX0_ladleStandingAt_33 (lv_at hl 0 rfl) ?_
            refine gf_ladle_place (d := 3) (fun X => X) Fr_id cx wo (by omega) m_234 dX0_ladleStandingAt_35 ?_
            refine tope (y := (g 91)) rfl ?_
            refine lv_iload_n hx hb dX0_ladleStandingAt_38 rfl (lv_at hl 5 rfl) ?_
            refine lv_icmp_ne (tgt := 45) hx hb dX0_ladleStandingAt_39 (by decide) (fun c_20 => ?_) (fun c_20 => ?_)
            · skip
              rw [if_neg c_20] at hM
              refine lv_iinc (v := 4) (lv' := [(4, .int 4), (5, .ref (ad (22 + 3))), (3, .int 4), (2, .ref (ad 30)), (0, .ref (ad 12)), (1, .int n)]) hx hb dX0_ladleStandingAt_45 hl (k := 1) rfl (by decide) (by decide) rfl (fun ls hl => ?_)
              refine lv_goto (tgt := 11) hx hb dX0_ladleStandingAt_48 (by decide) ?_
              refine lv_iload hx hb dX0_ladleStandingAt_11 (lv_at hl 0 rfl) ?_
              refine lv_iload_n hx hb dX0_ladleStandingAt_13 rfl (lv_at hl 2 rfl) ?_
              refine lv_icmp_ge (tgt := 51) hx hb dX0_ladleStandingAt_14 (by decide) (fun _ => ?_) (fun h => absurd (show ¬ _ from h) (by decide))
              refine lv_null hx hb dX0_ladleStandingAt_51 ?_
              exact r2_a (r := none) cx hQ wo dX0_ladleStandingAt_52 (by subst hM; exact ⟨rfl, rfl⟩)
            · skip
              rw [if_pos c_20] at hM
              refine lv_aload hx hb dX0_ladleStandingAt_42 (lv_at hl 0 rfl) ?_
              exact r2_a (r := some (ad (22 + 3))) cx hQ wo dX0_ladleStandingAt_44 (by subst hM; exact ⟨rfl, rfl⟩)
        · skip
          rw [if_pos c_18] at hM
          refine lv_aload hx hb dX0_ladleStandingAt_33 (lv_at hl 0 rfl) ?_
          refine gf_ladle_place (d := 2) (fun X => X) Fr_id cx wo (by omega) m_234 dX0_ladleStandingAt_35 ?_
          refine tope (y := (g 90)) rfl ?_
          refine lv_iload_n hx hb dX0_ladleStandingAt_38 rfl (lv_at hl 5 rfl) ?_
          refine lv_icmp_ne (tgt := 45) hx hb dX0_ladleStandingAt_39 (by decide) (fun c_21 => ?_) (fun c_21 => ?_)
          · skip
            rw [if_neg c_21] at hM
            refine lv_iinc (v := 3) (lv' := [(4, .int 3), (5, .ref (ad (22 + 2))), (3, .int 4), (2, .ref (ad 30)), (0, .ref (ad 12)), (1, .int n)]) hx hb dX0_ladleStandingAt_45 hl (k := 1) rfl (by decide) (by decide) rfl (fun ls hl => ?_)
            refine lv_goto (tgt := 11) hx hb dX0_ladleStandingAt_48 (by decide) ?_
            refine lv_iload hx hb dX0_ladleStandingAt_11 (lv_at hl 0 rfl) ?_
            refine lv_iload_n hx hb dX0_ladleStandingAt_13 rfl (lv_at hl 2 rfl) ?_
            refine lv_icmp_ge (tgt := 51) hx hb dX0_ladleStandingAt_14 (by decide) (fun h => absurd h (by decide)) (fun _ => ?_)
            refine lv_aload_n hx hb dX0_ladleStandingAt_17 rfl (lv_at hl 3 rfl) ?_
            refine lv_iload hx hb dX0_ladleStandingAt_18 (lv_at hl 0 rfl) ?_
            refine ald_r (n := 3) (fun X => X) Fr_id cx wo (at_ls G _ _) (t0 := 2) rfl rfl (by omega) (by decide) dX0_ladleStandingAt_20 ?_
            refine topv (y := .ref (ad (22 + 3))) rfl ?_
            refine lv_astore (lv' := [(5, .ref (ad (22 + 3))), (4, .int 3), (3, .int 4), (2, .ref (ad 30)), (0, .ref (ad 12)), (1, .int n)]) hx hb dX0_ladleStandingAt_21 hl (by decide) rfl (fun ls hl => ?_)
            refine lv_aload hx hb dX0_ladleStandingAt_23 (lv_at hl 0 rfl) ?_
            refine gf_ladle_carrier (d := 3) (fun X => X) Fr_id cx wo (by omega) m_236 dX0_ladleStandingAt_25 ?_
            refine tope (y := (g 95)) rfl ?_
            refine lv_bipush (v := (-4)) hx hb dX0_ladleStandingAt_28 (by decide) ?_
            refine lv_icmp_ne (tgt := 45) hx hb dX0_ladleStandingAt_30 (by decide) (fun c_22 => ?_) (fun c_22 => ?_)
            · skip
              rw [if_neg c_22] at hM
              refine lv_iinc (v := 4) (lv' := [(4, .int 4), (5, .ref (ad (22 + 3))), (3, .int 4), (2, .ref (ad 30)), (0, .ref (ad 12)), (1, .int n)]) hx hb dX0_ladleStandingAt_45 hl (k := 1) rfl (by decide) (by decide) rfl (fun ls hl => ?_)
              refine lv_goto (tgt := 11) hx hb dX0_ladleStandingAt_48 (by decide) ?_
              refine lv_iload hx hb dX0_ladleStandingAt_11 (lv_at hl 0 rfl) ?_
              refine lv_iload_n hx hb dX0_ladleStandingAt_13 rfl (lv_at hl 2 rfl) ?_
              refine lv_icmp_ge (tgt := 51) hx hb dX0_ladleStandingAt_14 (by decide) (fun _ => ?_) (fun h => absurd (show ¬ _ from h) (by decide))
              refine lv_null hx hb dX0_ladleStandingAt_51 ?_
              exact r2_a (r := none) cx hQ wo dX0_ladleStandingAt_52 (by subst hM; exact ⟨rfl, rfl⟩)
            · skip
              rw [if_pos c_22] at hM
              refine lv_aload hx hb dX0_ladleStandingAt_33 (lv_at hl 0 rfl) ?_
              refine gf_ladle_place (d := 3) (fun X => X) Fr_id cx wo (by omega) m_234 dX0_ladleStandingAt_35 ?_
              refine tope (y := (g 91)) rfl ?_
              refine lv_iload_n hx hb dX0_ladleStandingAt_38 rfl (lv_at hl 5 rfl) ?_
              refine lv_icmp_ne (tgt := 45) hx hb dX0_ladleStandingAt_39 (by decide) (fun c_23 => ?_) (fun c_23 => ?_)
              · skip
                rw [if_neg c_23] at hM
                refine lv_iinc (v := 4) (lv' := [(4, .int 4), (5, .ref (ad (22 + 3))), (3, .int 4), (2, .ref (ad 30)), (0, .ref (ad 12)), (1, .int n)]) hx hb dX0_ladleStandingAt_45 hl (k := 1) rfl (by decide) (by decide) rfl (fun ls hl => ?_)
                refine lv_goto (tgt := 11) hx hb dX0_ladleStandingAt_48 (by decide) ?_
                refine lv_iload hx hb dX0_ladleStandingAt_11 (lv_at hl 0 rfl) ?_
                refine lv_iload_n hx hb dX0_ladleStandingAt_13 rfl (lv_at hl 2 rfl) ?_
                refine lv_icmp_ge (tgt := 51) hx hb dX0_ladleStandingAt_14 (by decide) (fun _ => ?_) (fun h => absurd (show ¬ _ from h) (by decide))
                refine lv_null hx hb dX0_ladleStandingAt_51 ?_
                exact r2_a (r := none) cx hQ wo dX0_ladleStandingAt_52 (by subst hM; exact ⟨rfl, rfl⟩)
              · skip
                rw [if_pos c_23] at hM
                refine lv_aload hx hb dX0_ladleStandingAt_42 (lv_at hl 0 rfl) ?_
                exact r2_a (r := some (ad (22 + 3))) cx hQ wo dX0_ladleStandingAt_44 (by subst hM; exact ⟨rfl, rfl⟩)
          · skip
            rw [if_pos c_21] at hM
            refine lv_aload hx hb dX0_ladleStandingAt_42 (lv_at hl 0 rfl) ?_
            exact r2_a (r := some (ad (22 + 2))) cx hQ wo dX0_ladleStandingAt_44 (by subst hM; exact ⟨rfl, rfl⟩)
      · skip
        rw [if_pos c_17] at hM
        refine lv_aload hx hb dX0_ladleStandingAt_33 (lv_at hl 0 rfl) ?_
        refine gf_ladle_place (d := 1) (fun X => X) Fr_id cx wo (by omega) m_234 dX0_ladleStandingAt_35 ?_
        refine tope (y := (g 89)) rfl ?_
        refine lv_iload_n hx hb dX0_ladleStandingAt_38 rfl (lv_at hl 5 rfl) ?_
        refine lv_icmp_ne (tgt := 45) hx hb dX0_ladleStandingAt_39 (by decide) (fun c_24 => ?_) (fun c_24 => ?_)
        · skip
          rw [if_neg c_24] at hM
          refine lv_iinc (v := 2) (lv' := [(4, .int 2), (5, .ref (ad (22 + 1))), (3, .int 4), (2, .ref (ad 30)), (0, .ref (ad 12)), (1, .int n)]) hx hb dX0_ladleStandingAt_45 hl (k := 1) rfl (by decide) (by decide) rfl (fun ls hl => ?_)
          refine lv_goto (tgt := 11) hx hb dX0_ladleStandingAt_48 (by decide) ?_
          refine lv_iload hx hb dX0_ladleStandingAt_11 (lv_at hl 0 rfl) ?_
          refine lv_iload_n hx hb dX0_ladleStandingAt_13 rfl (lv_at hl 2 rfl) ?_
          refine lv_icmp_ge (tgt := 51) hx hb dX0_ladleStandingAt_14 (by decide) (fun h => absurd h (by decide)) (fun _ => ?_)
          refine lv_aload_n hx hb dX0_ladleStandingAt_17 rfl (lv_at hl 3 rfl) ?_
          refine lv_iload hx hb dX0_ladleStandingAt_18 (lv_at hl 0 rfl) ?_
          refine ald_r (n := 2) (fun X => X) Fr_id cx wo (at_ls G _ _) (t0 := 2) rfl rfl (by omega) (by decide) dX0_ladleStandingAt_20 ?_
          refine topv (y := .ref (ad (22 + 2))) rfl ?_
          refine lv_astore (lv' := [(5, .ref (ad (22 + 2))), (4, .int 2), (3, .int 4), (2, .ref (ad 30)), (0, .ref (ad 12)), (1, .int n)]) hx hb dX0_ladleStandingAt_21 hl (by decide) rfl (fun ls hl => ?_)
          refine lv_aload hx hb dX0_ladleStandingAt_23 (lv_at hl 0 rfl) ?_
          refine gf_ladle_carrier (d := 2) (fun X => X) Fr_id cx wo (by omega) m_236 dX0_ladleStandingAt_25 ?_
          refine tope (y := (g 94)) rfl ?_
          refine lv_bipush (v := (-4)) hx hb dX0_ladleStandingAt_28 (by decide) ?_
          refine lv_icmp_ne (tgt := 45) hx hb dX0_ladleStandingAt_30 (by decide) (fun c_25 => ?_) (fun c_25 => ?_)
          · skip
            rw [if_neg c_25] at hM
            refine lv_iinc (v := 3) (lv' := [(4, .int 3), (5, .ref (ad (22 + 2))), (3, .int 4), (2, .ref (ad 30)), (0, .ref (ad 12)), (1, .int n)]) hx hb dX0_ladleStandingAt_45 hl (k := 1) rfl (by decide) (by decide) rfl (fun ls hl => ?_)
            refine lv_goto (tgt := 11) hx hb dX0_ladleStandingAt_48 (by decide) ?_
            refine lv_iload hx hb dX0_ladleStandingAt_11 (lv_at hl 0 rfl) ?_
            refine lv_iload_n hx hb dX0_ladleStandingAt_13 rfl (lv_at hl 2 rfl) ?_
            refine lv_icmp_ge (tgt := 51) hx hb dX0_ladleStandingAt_14 (by decide) (fun h => absurd h (by decide)) (fun _ => ?_)
            refine lv_aload_n hx hb dX0_ladleStandingAt_17 rfl (lv_at hl 3 rfl) ?_
            refine lv_iload hx hb dX0_ladleStandingAt_18 (lv_at hl 0 rfl) ?_
            refine ald_r (n := 3) (fun X => X) Fr_id cx wo (at_ls G _ _) (t0 := 2) rfl rfl (by omega) (by decide) dX0_ladleStandingAt_20 ?_
            refine topv (y := .ref (ad (22 + 3))) rfl ?_
            refine lv_astore (lv' := [(5, .ref (ad (22 + 3))), (4, .int 3), (3, .int 4), (2, .ref (ad 30)), (0, .ref (ad 12)), (1, .int n)]) hx hb dX0_ladleStandingAt_21 hl (by decide) rfl (fun ls hl => ?_)
            refine lv_aload hx hb dX0_ladleStandingAt_23 (lv_at hl 0 rfl) ?_
            refine gf_ladle_carrier (d := 3) (fun X => X) Fr_id cx wo (by omega) m_236 dX0_ladleStandingAt_25 ?_
            refine tope (y := (g 95)) rfl ?_
            refine lv_bipush (v := (-4)) hx hb dX0_ladleStandingAt_28 (by decide) ?_
            refine lv_icmp_ne (tgt := 45) hx hb dX0_ladleStandingAt_30 (by decide) (fun c_26 => ?_) (fun c_26 => ?_)
            · skip
              rw [if_neg c_26] at hM
              refine lv_iinc (v := 4) (lv' := [(4, .int 4), (5, .ref (ad (22 + 3))), (3, .int 4), (2, .ref (ad 30)), (0, .ref (ad 12)), (1, .int n)]) hx hb dX0_ladleStandingAt_45 hl (k := 1) rfl (by decide) (by decide) rfl (fun ls hl => ?_)
              refine lv_goto (tgt := 11) hx hb dX0_ladleStandingAt_48 (by decide) ?_
              refine lv_iload hx hb dX0_ladleStandingAt_11 (lv_at hl 0 rfl) ?_
              refine lv_iload_n hx hb dX0_ladleStandingAt_13 rfl (lv_at hl 2 rfl) ?_
              refine lv_icmp_ge (tgt := 51) hx hb dX0_ladleStandingAt_14 (by decide) (fun _ => ?_) (fun h => absurd (show ¬ _ from h) (by decide))
              refine lv_null hx hb dX0_ladleStandingAt_51 ?_
              exact r2_a (r := none) cx hQ wo dX0_ladleStandingAt_52 (by subst hM; exact ⟨rfl, rfl⟩)
            · skip
              rw [if_pos c_26] at hM
              refine lv_aload hx hb dX0_ladleStandingAt_33 (lv_at hl 0 rfl) ?_
              refine gf_ladle_place (d := 3) (fun X => X) Fr_id cx wo (by omega) m_234 dX0_ladleStandingAt_35 ?_
              refine tope (y := (g 91)) rfl ?_
              refine lv_iload_n hx hb dX0_ladleStandingAt_38 rfl (lv_at hl 5 rfl) ?_
              refine lv_icmp_ne (tgt := 45) hx hb dX0_ladleStandingAt_39 (by decide) (fun c_27 => ?_) (fun c_27 => ?_)
              · skip
                rw [if_neg c_27] at hM
                refine lv_iinc (v := 4) (lv' := [(4, .int 4), (5, .ref (ad (22 + 3))), (3, .int 4), (2, .ref (ad 30)), (0, .ref (ad 12)), (1, .int n)]) hx hb dX0_ladleStandingAt_45 hl (k := 1) rfl (by decide) (by decide) rfl (fun ls hl => ?_)
                refine lv_goto (tgt := 11) hx hb dX0_ladleStandingAt_48 (by decide) ?_
                refine lv_iload hx hb dX0_ladleStandingAt_11 (lv_at hl 0 rfl) ?_
                refine lv_iload_n hx hb dX0_ladleStandingAt_13 rfl (lv_at hl 2 rfl) ?_
                refine lv_icmp_ge (tgt := 51) hx hb dX0_ladleStandingAt_14 (by decide) (fun _ => ?_) (fun h => absurd (show ¬ _ from h) (by decide))
                refine lv_null hx hb dX0_ladleStandingAt_51 ?_
                exact r2_a (r := none) cx hQ wo dX0_ladleStandingAt_52 (by subst hM; exact ⟨rfl, rfl⟩)
              · skip
                rw [if_pos c_27] at hM
                refine lv_aload hx hb dX0_ladleStandingAt_42 (lv_at hl 0 rfl) ?_
                exact r2_a (r := some (ad (22 + 3))) cx hQ wo dX0_ladleStandingAt_44 (by subst hM; exact ⟨rfl, rfl⟩)
          · skip
            rw [if_pos c_25] at hM
            refine lv_aload hx hb dX0_ladleStandingAt_33 (lv_at hl 0 rfl) ?_
            refine gf_ladle_place (d := 2) (fun X => X) Fr_id cx wo (by omega) m_234 dX0_ladleStandingAt_35 ?_
            refine tope (y := (g 90)) rfl ?_
            refine lv_iload_n hx hb dX0_ladleStandingAt_38 rfl (lv_at hl 5 rfl) ?_
            refine lv_icmp_ne (tgt := 45) hx hb dX0_ladleStandingAt_39 (by decide) (fun c_28 => ?_) (fun c_28 => ?_)
            · skip
              rw [if_neg c_28] at hM
              refine lv_iinc (v := 3) (lv' := [(4, .int 3), (5, .ref (ad (22 + 2))), (3, .int 4), (2, .ref (ad 30)), (0, .ref (ad 12)), (1, .int n)]) hx hb dX0_ladleStandingAt_45 hl (k := 1) rfl (by decide) (by decide) rfl (fun ls hl => ?_)
              refine lv_goto (tgt := 11) hx hb dX0_ladleStandingAt_48 (by decide) ?_
              refine lv_iload hx hb dX0_ladleStandingAt_11 (lv_at hl 0 rfl) ?_
              refine lv_iload_n hx hb dX0_ladleStandingAt_13 rfl (lv_at hl 2 rfl) ?_
              refine lv_icmp_ge (tgt := 51) hx hb dX0_ladleStandingAt_14 (by decide) (fun h => absurd h (by decide)) (fun _ => ?_)
              refine lv_aload_n hx hb dX0_ladleStandingAt_17 rfl (lv_at hl 3 rfl) ?_
              refine lv_iload hx hb dX0_ladleStandingAt_18 (lv_at hl 0 rfl) ?_
              refine ald_r (n := 3) (fun X => X) Fr_id cx wo (at_ls G _ _) (t0 := 2) rfl rfl (by omega) (by decide) dX0_ladleStandingAt_20 ?_
              refine topv (y := .ref (ad (22 + 3))) rfl ?_
              refine lv_astore (lv' := [(5, .ref (ad (22 + 3))), (4, .int 3), (3, .int 4), (2, .ref (ad 30)), (0, .ref (ad 12)), (1, .int n)]) hx hb dX0_ladleStandingAt_21 hl (by decide) rfl (fun ls hl => ?_)
              refine lv_aload hx hb dX0_ladleStandingAt_23 (lv_at hl 0 rfl) ?_
              refine gf_ladle_carrier (d := 3) (fun X => X) Fr_id cx wo (by omega) m_236 dX0_ladleStandingAt_25 ?_
              refine tope (y := (g 95)) rfl ?_
              refine lv_bipush (v := (-4)) hx hb dX0_ladleStandingAt_28 (by decide) ?_
              refine lv_icmp_ne (tgt := 45) hx hb dX0_ladleStandingAt_30 (by decide) (fun c_29 => ?_) (fun c_29 => ?_)
              · skip
                rw [if_neg c_29] at hM
                refine lv_iinc (v := 4) (lv' := [(4, .int 4), (5, .ref (ad (22 + 3))), (3, .int 4), (2, .ref (ad 30)), (0, .ref (ad 12)), (1, .int n)]) hx hb dX0_ladleStandingAt_45 hl (k := 1) rfl (by decide) (by decide) rfl (fun ls hl => ?_)
                refine lv_goto (tgt := 11) hx hb dX0_ladleStandingAt_48 (by decide) ?_
                refine lv_iload hx hb dX0_ladleStandingAt_11 (lv_at hl 0 rfl) ?_
                refine lv_iload_n hx hb dX0_ladleStandingAt_13 rfl (lv_at hl 2 rfl) ?_
                refine lv_icmp_ge (tgt := 51) hx hb dX0_ladleStandingAt_14 (by decide) (fun _ => ?_) (fun h => absurd (show ¬ _ from h) (by decide))
                refine lv_null hx hb dX0_ladleStandingAt_51 ?_
                exact r2_a (r := none) cx hQ wo dX0_ladleStandingAt_52 (by subst hM; exact ⟨rfl, rfl⟩)
              · skip
                rw [if_pos c_29] at hM
                refine lv_aload hx hb dX0_ladleStandingAt_33 (lv_at hl 0 rfl) ?_
                refine gf_ladle_place (d := 3) (fun X => X) Fr_id cx wo (by omega) m_234 dX0_ladleStandingAt_35 ?_
                refine tope (y := (g 91)) rfl ?_
                refine lv_iload_n hx hb dX0_ladleStandingAt_38 rfl (lv_at hl 5 rfl) ?_
                refine lv_icmp_ne (tgt := 45) hx hb dX0_ladleStandingAt_39 (by decide) (fun c_30 => ?_) (fun c_30 => ?_)
                · skip
                  rw [if_neg c_30] at hM
                  refine lv_iinc (v := 4) (lv' := [(4, .int 4), (5, .ref (ad (22 + 3))), (3, .int 4), (2, .ref (ad 30)), (0, .ref (ad 12)), (1, .int n)]) hx hb dX0_ladleStandingAt_45 hl (k := 1) rfl (by decide) (by decide) rfl (fun ls hl => ?_)
                  refine lv_goto (tgt := 11) hx hb dX0_ladleStandingAt_48 (by decide) ?_
                  refine lv_iload hx hb dX0_ladleStandingAt_11 (lv_at hl 0 rfl) ?_
                  refine lv_iload_n hx hb dX0_ladleStandingAt_13 rfl (lv_at hl 2 rfl) ?_
                  refine lv_icmp_ge (tgt := 51) hx hb dX0_ladleStandingAt_14 (by decide) (fun _ => ?_) (fun h => absurd (show ¬ _ from h) (by decide))
                  refine lv_null hx hb dX0_ladleStandingAt_51 ?_
                  exact r2_a (r := none) cx hQ wo dX0_ladleStandingAt_52 (by subst hM; exact ⟨rfl, rfl⟩)
                · skip
                  rw [if_pos c_30] at hM
                  refine lv_aload hx hb dX0_ladleStandingAt_42 (lv_at hl 0 rfl) ?_
                  exact r2_a (r := some (ad (22 + 3))) cx hQ wo dX0_ladleStandingAt_44 (by subst hM; exact ⟨rfl, rfl⟩)
            · skip
              rw [if_pos c_28] at hM
              refine lv_aload hx hb dX0_ladleStandingAt_42 (lv_at hl 0 rfl) ?_
              exact r2_a (r := some (ad (22 + 2))) cx hQ wo dX0_ladleStandingAt_44 (by subst hM; exact ⟨rfl, rfl⟩)
        · skip
          rw [if_pos c_24] at hM
          refine lv_aload hx hb dX0_ladleStandingAt_42 (lv_at hl 0 rfl) ?_
          exact r2_a (r := some (ad (22 + 1))) cx hQ wo dX0_ladleStandingAt_44 (by subst hM; exact ⟨rfl, rfl⟩)
    · skip
      rw [if_pos c_16] at hM
      refine lv_aload hx hb dX0_ladleStandingAt_42 (lv_at hl 0 rfl) ?_
      exact r2_a (r := some (ad (22 + 0))) cx hQ wo dX0_ladleStandingAt_44 (by subst hM; exact ⟨rfl, rfl⟩)
theorem m_X0_ladleStandingAt_lt (g : St) (n : Int32) : (m_X0_ladleStandingAt g n).getD 0 < 4 := by
  unfold m_X0_ladleStandingAt
  (repeat' split) <;> decide
abbrev rm_X0_craneNumbered : Room := { frames := 0, cells := 0, slots := 0, locals := 0 }
def m_X0_craneNumbered (g : St) (n : Int32) : Option Nat :=
  if n = 0 then (some 0)
  else if n = 1 then (some 1)
  else none
set_option maxHeartbeats 4000000 in
set_option maxRecDepth 100000 in
theorem c_X0_craneNumbered (l : Launch) (G : GG) (ad : Nat → Nat) (g : St) (n : Int32) : Ct l G yX0_craneNumbered cX0_craneNumbered 2 (some (Jvm.ClassFile.FieldType.object "HotAisle$Crane")) rm_X0_craneNumbered [.ref (ad 12), .int n] (aw G ad g) (fun rv W1 => rv = some (va_rf ((m_X0_craneNumbered g n).map (fun q => ad (26 + q)))) ∧ W1 = aw G ad g) := by
  refine Ct.mk2 (by decide) (Nat.le_of_ble_eq_true rfl) ?_
  intro p e s m args below meth c A H locs ls Q cx wo hl hQ
  obtain ⟨hx, hb, hml, hr, hlo, hown, hts, hnm, kn, hA⟩ := id cx
  have hl : lv_has ls 2 [(0, .ref (ad 12)), (1, .int n)] := hl
  generalize hM : m_X0_craneNumbered g n = M at hQ
  unfold m_X0_craneNumbered at hM
  refine lv_iload_n hx hb dX0_craneNumbered_0 rfl (lv_at hl 1 rfl) ?_
  by_cases c_1 : n = 0
  · skip
    rw [if_pos c_1] at hM
    refine lv_lookup (off := 27) (tgt := 28) hx hb dX0_craneNumbered_1 (by decide) (by rw [c_1]; decide) (by decide) ?_
    refine lv_aload_n hx hb dX0_craneNumbered_28 rfl (lv_at hl 0 rfl) ?_
    refine gf_aisle_left (fun X => X) Fr_id cx wo  m_253 dX0_craneNumbered_29 ?_
    exact r2_a (r := some (ad (26 + 0))) cx hQ wo dX0_craneNumbered_32 (by subst hM; exact ⟨rfl, rfl⟩)
  rw [if_neg c_1] at hM
  by_cases c_2 : n = 1
  · skip
    rw [if_pos c_2] at hM
    refine lv_lookup (off := 32) (tgt := 33) hx hb dX0_craneNumbered_1 (by decide) (by rw [c_2]; decide) (by decide) ?_
    refine lv_aload_n hx hb dX0_craneNumbered_33 rfl (lv_at hl 0 rfl) ?_
    refine gf_aisle_right (fun X => X) Fr_id cx wo  m_254 dX0_craneNumbered_34 ?_
    exact r2_a (r := some (ad (26 + 1))) cx hQ wo dX0_craneNumbered_37 (by subst hM; exact ⟨rfl, rfl⟩)
  rw [if_neg c_2] at hM
  refine lv_lookup (off := 37) (tgt := 38) hx hb dX0_craneNumbered_1 (by decide) ((lv_osw c_1 rfl).trans ((lv_osw c_2 rfl).trans rfl)) (by decide) ?_
  refine lv_null hx hb dX0_craneNumbered_38 ?_
  exact r2_a (r := none) cx hQ wo dX0_craneNumbered_39 (by subst hM; exact ⟨rfl, rfl⟩)
theorem m_X0_craneNumbered_lt (g : St) (n : Int32) : (m_X0_craneNumbered g n).getD 0 < 2 := by
  unfold m_X0_craneNumbered
  (repeat' split) <;> decide
abbrev rm_X0_hasOrders : Room := { frames := 0, cells := 0, slots := 0, locals := 0 }
def m_X0_hasOrders (g : St) : Bool :=
  if 0 < (g 104) then true
  else if (g 105) ≤ 0 then false
  else true
set_option maxHeartbeats 4000000 in
set_option maxRecDepth 100000 in
theorem c_X0_hasOrders (l : Launch) (G : GG) (ad : Nat → Nat) (g : St)  : Ct l G yX0_hasOrders cX0_hasOrders 1 (some Jvm.ClassFile.FieldType.boolean) rm_X0_hasOrders [.ref (ad 12)] (aw G ad g) (fun rv W1 => rv = some (.int (bi (m_X0_hasOrders g))) ∧ W1 = aw G ad g) := by
  refine Ct.mk2 (by decide) (Nat.le_of_ble_eq_true rfl) ?_
  intro p e s m args below meth c A H locs ls Q cx wo hl hQ
  obtain ⟨hx, hb, hml, hr, hlo, hown, hts, hnm, kn, hA⟩ := id cx
  have hl : lv_has ls 1 [(0, .ref (ad 12))] := hl
  generalize hM : m_X0_hasOrders g = M at hQ
  unfold m_X0_hasOrders at hM
  refine lv_aload_n hx hb dX0_hasOrders_0 rfl (lv_at hl 0 rfl) ?_
  refine gf_aisle_left (fun X => X) Fr_id cx wo  m_253 dX0_hasOrders_1 ?_
  refine gf_crane_orders (r := 0) (fun X => X) Fr_id cx wo (by omega) m_110 dX0_hasOrders_4 ?_
  refine tope (y := (g 104)) rfl ?_
  refine lv_if_gt (tgt := 20) hx hb dX0_hasOrders_7 (by decide) (fun c_1 => ?_) (fun c_1 => ?_)
  · skip
    rw [if_pos c_1] at hM
    refine lv_iconst (v := 1) hx hb dX0_hasOrders_20 (by decide) ?_
    refine lv_goto (tgt := 25) hx hb dX0_hasOrders_21 (by decide) ?_
    refine tope (y := bi true) rfl ?_
    exact r2_z cx hQ wo dX0_hasOrders_25 (by subst hM; exact ⟨rfl, rfl⟩)
  · skip
    rw [if_neg c_1] at hM
    refine lv_aload_n hx hb dX0_hasOrders_10 rfl (lv_at hl 0 rfl) ?_
    refine gf_aisle_right (fun X => X) Fr_id cx wo  m_254 dX0_hasOrders_11 ?_
    refine gf_crane_orders (r := 1) (fun X => X) Fr_id cx wo (by omega) m_110 dX0_hasOrders_14 ?_
    refine tope (y := (g 105)) rfl ?_
    refine lv_if_le (tgt := 24) hx hb dX0_hasOrders_17 (by decide) (fun c_2 => ?_) (fun c_2 => ?_)
    · skip
      rw [if_pos c_2] at hM
      refine lv_iconst (v := 0) hx hb dX0_hasOrders_24 (by decide) ?_
      refine tope (y := bi false) rfl ?_
      exact r2_z cx hQ wo dX0_hasOrders_25 (by subst hM; exact ⟨rfl, rfl⟩)
    · skip
      rw [if_neg c_2] at hM
      refine lv_iconst (v := 1) hx hb dX0_hasOrders_20 (by decide) ?_
      refine lv_goto (tgt := 25) hx hb dX0_hasOrders_21 (by decide) ?_
      refine tope (y := bi true) rfl ?_
      exact r2_z cx hQ wo dX0_hasOrders_25 (by subst hM; exact ⟨rfl, rfl⟩)
abbrev rm_X0_inVessels : Room := { frames := 1, cells := 0, slots := 0, locals := 21 }
def m_X0_inVessels (g : St) (k : Int32) : Int32 :=
  (((0 + (m_X4_of g 1 k)) + (m_X4_of g 2 k)) + (m_X4_of g 3 k))
set_option maxHeartbeats 4000000 in
set_option maxRecDepth 100000 in
theorem c_X0_inVessels (l : Launch) (G : GG) (ad : Nat → Nat) (g : St) (k : Int32) : Ct l G yX0_inVessels cX0_inVessels 7 (some Jvm.ClassFile.FieldType.int) rm_X0_inVessels [.ref (ad 12), .int k] (aw G ad g) (fun rv W1 => rv = some (.int (m_X0_inVessels g k)) ∧ W1 = aw G ad g) := by
  refine Ct.mk2 (by decide) (Nat.le_of_ble_eq_true rfl) ?_
  intro p e s m args below meth c A H locs ls Q cx wo hl hQ
  obtain ⟨hx, hb, hml, hr, hlo, hown, hts, hnm, kn, hA⟩ := id cx
  have hl : lv_has ls 7 [(0, .ref (ad 12)), (1, .int k)] := hl
  generalize hM : m_X0_inVessels g k = M at hQ
  unfold m_X0_inVessels at hM
  refine lv_iconst (v := 0) hx hb dX0_inVessels_0 (by decide) ?_
  refine lv_istore_n (lv' := [(2, .int 0), (0, .ref (ad 12)), (1, .int k)]) hx hb dX0_inVessels_1 rfl hl (by decide) rfl (fun ls hl => ?_)
  refine lv_aload_n hx hb dX0_inVessels_2 rfl (lv_at hl 1 rfl) ?_
  refine gf_aisle_vessels (fun X => X) Fr_id cx wo  m_251 dX0_inVessels_3 ?_
  refine lv_astore_n (lv' := [(3, .ref (ad 29)), (2, .int 0), (0, .ref (ad 12)), (1, .int k)]) hx hb dX0_inVessels_6 rfl hl (by decide) rfl (fun ls hl => ?_)
  refine lv_aload_n hx hb dX0_inVessels_7 rfl (lv_at hl 0 rfl) ?_
  refine alen (v := 3) (fun X => X) Fr_id cx wo (at_vs G _ _) (t0 := 1) rfl rfl dX0_inVessels_8 ?_
  refine lv_istore (lv' := [(4, .int 3), (3, .ref (ad 29)), (2, .int 0), (0, .ref (ad 12)), (1, .int k)]) hx hb dX0_inVessels_9 hl (by decide) rfl (fun ls hl => ?_)
  refine lv_iconst (v := 0) hx hb dX0_inVessels_11 (by decide) ?_
  refine lv_istore (lv' := [(5, .int 0), (4, .int 3), (3, .ref (ad 29)), (2, .int 0), (0, .ref (ad 12)), (1, .int k)]) hx hb dX0_inVessels_12 hl (by decide) rfl (fun ls hl => ?_)
  refine lv_iload hx hb dX0_inVessels_14 (lv_at hl 0 rfl) ?_
  refine lv_iload hx hb dX0_inVessels_16 (lv_at hl 1 rfl) ?_
  refine lv_icmp_ge (tgt := 45) hx hb dX0_inVessels_18 (by decide) (fun h => absurd h (by decide)) (fun _ => ?_)
  refine lv_aload_n hx hb dX0_inVessels_21 rfl (lv_at hl 2 rfl) ?_
  refine lv_iload hx hb dX0_inVessels_22 (lv_at hl 0 rfl) ?_
  refine ald_r (n := 0) (fun X => X) Fr_id cx wo (at_vs G _ _) (t0 := 1) rfl rfl (by omega) (by decide) dX0_inVessels_24 ?_
  refine topv (y := .ref (ad (19 + 0))) rfl ?_
  refine lv_astore (lv' := [(6, .ref (ad (19 + 0))), (5, .int 0), (4, .int 3), (3, .ref (ad 29)), (2, .int 0), (0, .ref (ad 12)), (1, .int k)]) hx hb dX0_inVessels_25 hl (by decide) rfl (fun ls hl => ?_)
  refine lv_iload_n hx hb dX0_inVessels_27 rfl (lv_at hl 4 rfl) ?_
  refine lv_aload hx hb dX0_inVessels_28 (lv_at hl 0 rfl) ?_
  refine gf_vessel_stuff (v := 0) (fun X => X) Fr_id cx wo (by omega) m_198 dX0_inVessels_30 ?_
  refine topv (y := .ref (ad 1)) rfl ?_
  refine lv_iload_n hx hb dX0_inVessels_33 rfl (lv_at hl 6 rfl) ?_
  refine call_V (As := [.int k]) (rest := [.int 0]) (fun X => X) Fr_id cx (c_X4_of l G ad _ (t := 1) (by omega) (by omega) k) fx_X4_of m_564 m_488 m_489 ⟨by decide, by decide⟩ wo (at_stuff G _ _ (t := 1) (by omega) (by omega)) rfl rfl rfl hl.1 rfl (Nat.le_of_ble_eq_true rfl) dX0_inVessels_34 ⟨by decide, by decide⟩ (fun v W1 H locs hp wo => ?_)
  obtain ⟨rfl, rfl⟩ := hp
  refine nrm_i ?_
  refine lv_iadd hx hb dX0_inVessels_37 ?_
  refine lv_istore_n (lv' := [(2, .int (0 + (m_X4_of g 1 k))), (6, .ref (ad (19 + 0))), (5, .int 0), (4, .int 3), (3, .ref (ad 29)), (0, .ref (ad 12)), (1, .int k)]) hx hb dX0_inVessels_38 rfl hl (by decide) rfl (fun ls hl => ?_)
  refine lv_iinc (v := 1) (lv' := [(5, .int 1), (2, .int (0 + (m_X4_of g 1 k))), (6, .ref (ad (19 + 0))), (4, .int 3), (3, .ref (ad 29)), (0, .ref (ad 12)), (1, .int k)]) hx hb dX0_inVessels_39 hl (k := 2) rfl (by decide) (by decide) rfl (fun ls hl => ?_)
  refine lv_goto (tgt := 14) hx hb dX0_inVessels_42 (by decide) ?_
  refine lv_iload hx hb dX0_inVessels_14 (lv_at hl 0 rfl) ?_
  refine lv_iload hx hb dX0_inVessels_16 (lv_at hl 3 rfl) ?_
  refine lv_icmp_ge (tgt := 45) hx hb dX0_inVessels_18 (by decide) (fun h => absurd h (by decide)) (fun _ => ?_)
  refine lv_aload_n hx hb dX0_inVessels_21 rfl (lv_at hl 4 rfl) ?_
  refine lv_iload hx hb dX0_inVessels_22 (lv_at hl 0 rfl) ?_
  refine ald_r (n := 1) (fun X => X) Fr_id cx wo (at_vs G _ _) (t0 := 1) rfl rfl (by omega) (by decide) dX0_inVessels_24 ?_
  refine topv (y := .ref (ad (19 + 1))) rfl ?_
  refine lv_astore (lv' := [(6, .ref (ad (19 + 1))), (5, .int 1), (2, .int (0 + (m_X4_of g 1 k))), (4, .int 3), (3, .ref (ad 29)), (0, .ref (ad 12)), (1, .int k)]) hx hb dX0_inVessels_25 hl (by decide) rfl (fun ls hl => ?_)
  refine lv_iload_n hx hb dX0_inVessels_27 rfl (lv_at hl 2 rfl) ?_
  refine lv_aload hx hb dX0_inVessels_28 (lv_at hl 0 rfl) ?_
  refine gf_vessel_stuff (v := 1) (fun X => X) Fr_id cx wo (by omega) m_198 dX0_inVessels_30 ?_
  refine topv (y := .ref (ad 2)) rfl ?_
  refine lv_iload_n hx hb dX0_inVessels_33 rfl (lv_at hl 6 rfl) ?_
  refine call_V (As := [.int k]) (rest := [.int (0 + (m_X4_of g 1 k))]) (fun X => X) Fr_id cx (c_X4_of l G ad _ (t := 2) (by omega) (by omega) k) fx_X4_of m_564 m_488 m_489 ⟨by decide, by decide⟩ wo (at_stuff G _ _ (t := 2) (by omega) (by omega)) rfl rfl rfl hl.1 rfl (Nat.le_of_ble_eq_true rfl) dX0_inVessels_34 ⟨by decide, by decide⟩ (fun v W1 H locs hp wo => ?_)
  obtain ⟨rfl, rfl⟩ := hp
  refine nrm_i ?_
  refine lv_iadd hx hb dX0_inVessels_37 ?_
  refine lv_istore_n (lv' := [(2, .int ((0 + (m_X4_of g 1 k)) + (m_X4_of g 2 k))), (6, .ref (ad (19 + 1))), (5, .int 1), (4, .int 3), (3, .ref (ad 29)), (0, .ref (ad 12)), (1, .int k)]) hx hb dX0_inVessels_38 rfl hl (by decide) rfl (fun ls hl => ?_)
  refine lv_iinc (v := 2) (lv' := [(5, .int 2), (2, .int ((0 + (m_X4_of g 1 k)) + (m_X4_of g 2 k))), (6, .ref (ad (19 + 1))), (4, .int 3), (3, .ref (ad 29)), (0, .ref (ad 12)), (1, .int k)]) hx hb dX0_inVessels_39 hl (k := 2) rfl (by decide) (by decide) rfl (fun ls hl => ?_)
  refine lv_goto (tgt := 14) hx hb dX0_inVessels_42 (by decide) ?_
  refine lv_iload hx hb dX0_inVessels_14 (lv_at hl 0 rfl) ?_
  refine lv_iload hx hb dX0_inVessels_16 (lv_at hl 3 rfl) ?_
  refine lv_icmp_ge (tgt := 45) hx hb dX0_inVessels_18 (by decide) (fun h => absurd h (by decide)) (fun _ => ?_)
  refine lv_aload_n hx hb dX0_inVessels_21 rfl (lv_at hl 4 rfl) ?_
  refine lv_iload hx hb dX0_inVessels_22 (lv_at hl 0 rfl) ?_
  refine ald_r (n := 2) (fun X => X) Fr_id cx wo (at_vs G _ _) (t0 := 1) rfl rfl (by omega) (by decide) dX0_inVessels_24 ?_
  refine topv (y := .ref (ad (19 + 2))) rfl ?_
  refine lv_astore (lv' := [(6, .ref (ad (19 + 2))), (5, .int 2), (2, .int ((0 + (m_X4_of g 1 k)) + (m_X4_of g 2 k))), (4, .int 3), (3, .ref (ad 29)), (0, .ref (ad 12)), (1, .int k)]) hx hb dX0_inVessels_25 hl (by decide) rfl (fun ls hl => ?_)
  refine lv_iload_n hx hb dX0_inVessels_27 rfl (lv_at hl 2 rfl) ?_
  refine lv_aload hx hb dX0_inVessels_28 (lv_at hl 0 rfl) ?_
  refine gf_vessel_stuff (v := 2) (fun X => X) Fr_id cx wo (by omega) m_198 dX0_inVessels_30 ?_
  refine topv (y := .ref (ad 3)) rfl ?_
  refine lv_iload_n hx hb dX0_inVessels_33 rfl (lv_at hl 6 rfl) ?_
  refine call_V (As := [.int k]) (rest := [.int ((0 + (m_X4_of g 1 k)) + (m_X4_of g 2 k))]) (fun X => X) Fr_id cx (c_X4_of l G ad _ (t := 3) (by omega) (by omega) k) fx_X4_of m_564 m_488 m_489 ⟨by decide, by decide⟩ wo (at_stuff G _ _ (t := 3) (by omega) (by omega)) rfl rfl rfl hl.1 rfl (Nat.le_of_ble_eq_true rfl) dX0_inVessels_34 ⟨by decide, by decide⟩ (fun v W1 H locs hp wo => ?_)
  obtain ⟨rfl, rfl⟩ := hp
  refine nrm_i ?_
  refine lv_iadd hx hb dX0_inVessels_37 ?_
  refine lv_istore_n (lv' := [(2, .int (((0 + (m_X4_of g 1 k)) + (m_X4_of g 2 k)) + (m_X4_of g 3 k))), (6, .ref (ad (19 + 2))), (5, .int 2), (4, .int 3), (3, .ref (ad 29)), (0, .ref (ad 12)), (1, .int k)]) hx hb dX0_inVessels_38 rfl hl (by decide) rfl (fun ls hl => ?_)
  refine lv_iinc (v := 3) (lv' := [(5, .int 3), (2, .int (((0 + (m_X4_of g 1 k)) + (m_X4_of g 2 k)) + (m_X4_of g 3 k))), (6, .ref (ad (19 + 2))), (4, .int 3), (3, .ref (ad 29)), (0, .ref (ad 12)), (1, .int k)]) hx hb dX0_inVessels_39 hl (k := 2) rfl (by decide) (by decide) rfl (fun ls hl => ?_)
  refine lv_goto (tgt := 14) hx hb dX0_inVessels_42 (by decide) ?_
  refine lv_iload hx hb dX0_inVessels_14 (lv_at hl 0 rfl) ?_
  refine lv_iload hx hb dX0_inVessels_16 (lv_at hl 3 rfl) ?_
  refine lv_icmp_ge (tgt := 45) hx hb dX0_inVessels_18 (by decide) (fun _ => ?_) (fun h => absurd (show ¬ _ from h) (by decide))
  refine lv_iload_n hx hb dX0_inVessels_45 rfl (lv_at hl 1 rfl) ?_
  exact r2_i cx hQ wo dX0_inVessels_46 (by subst hM; exact ⟨rfl, rfl⟩)
abbrev rm_X0_inLadles : Room := { frames := 1, cells := 0, slots := 0, locals := 21 }
def m_X0_inLadles (g : St) (k : Int32) : Int32 :=
  ((((0 + (m_X4_of g 4 k)) + (m_X4_of g 5 k)) + (m_X4_of g 6 k)) + (m_X4_of g 7 k))
set_option maxHeartbeats 4000000 in
set_option maxRecDepth 100000 in
theorem c_X0_inLadles (l : Launch) (G : GG) (ad : Nat → Nat) (g : St) (k : Int32) : Ct l G yX0_inLadles cX0_inLadles 7 (some Jvm.ClassFile.FieldType.int) rm_X0_inLadles [.ref (ad 12), .int k] (aw G ad g) (fun rv W1 => rv = some (.int (m_X0_inLadles g k)) ∧ W1 = aw G ad g) := by
  refine Ct.mk2 (by decide) (Nat.le_of_ble_eq_true rfl) ?_
  intro p e s m args below meth c A H locs ls Q cx wo hl hQ
  obtain ⟨hx, hb, hml, hr, hlo, hown, hts, hnm, kn, hA⟩ := id cx
  have hl : lv_has ls 7 [(0, .ref (ad 12)), (1, .int k)] := hl
  generalize hM : m_X0_inLadles g k = M at hQ
  unfold m_X0_inLadles at hM
  refine lv_iconst (v := 0) hx hb dX0_inLadles_0 (by decide) ?_
  refine lv_istore_n (lv' := [(2, .int 0), (0, .ref (ad 12)), (1, .int k)]) hx hb dX0_inLadles_1 rfl hl (by decide) rfl (fun ls hl => ?_)
  refine lv_aload_n hx hb dX0_inLadles_2 rfl (lv_at hl 1 rfl) ?_
  refine gf_aisle_ladles (fun X => X) Fr_id cx wo  m_252 dX0_inLadles_3 ?_
  refine lv_astore_n (lv' := [(3, .ref (ad 30)), (2, .int 0), (0, .ref (ad 12)), (1, .int k)]) hx hb dX0_inLadles_6 rfl hl (by decide) rfl (fun ls hl => ?_)
  refine lv_aload_n hx hb dX0_inLadles_7 rfl (lv_at hl 0 rfl) ?_
  refine alen (v := 4) (fun X => X) Fr_id cx wo (at_ls G _ _) (t0 := 2) rfl rfl dX0_inLadles_8 ?_
  refine lv_istore (lv' := [(4, .int 4), (3, .ref (ad 30)), (2, .int 0), (0, .ref (ad 12)), (1, .int k)]) hx hb dX0_inLadles_9 hl (by decide) rfl (fun ls hl => ?_)
  refine lv_iconst (v := 0) hx hb dX0_inLadles_11 (by decide) ?_
  refine lv_istore (lv' := [(5, .int 0), (4, .int 4), (3, .ref (ad 30)), (2, .int 0), (0, .ref (ad 12)), (1, .int k)]) hx hb dX0_inLadles_12 hl (by decide) rfl (fun ls hl => ?_)
  refine lv_iload hx hb dX0_inLadles_14 (lv_at hl 0 rfl) ?_
  refine lv_iload hx hb dX0_inLadles_16 (lv_at hl 1 rfl) ?_
  refine lv_icmp_ge (tgt := 45) hx hb dX0_inLadles_18 (by decide) (fun h => absurd h (by decide)) (fun _ => ?_)
  refine lv_aload_n hx hb dX0_inLadles_21 rfl (lv_at hl 2 rfl) ?_
  refine lv_iload hx hb dX0_inLadles_22 (lv_at hl 0 rfl) ?_
  refine ald_r (n := 0) (fun X => X) Fr_id cx wo (at_ls G _ _) (t0 := 2) rfl rfl (by omega) (by decide) dX0_inLadles_24 ?_
  refine topv (y := .ref (ad (22 + 0))) rfl ?_
  refine lv_astore (lv' := [(6, .ref (ad (22 + 0))), (5, .int 0), (4, .int 4), (3, .ref (ad 30)), (2, .int 0), (0, .ref (ad 12)), (1, .int k)]) hx hb dX0_inLadles_25 hl (by decide) rfl (fun ls hl => ?_)
  refine lv_iload_n hx hb dX0_inLadles_27 rfl (lv_at hl 4 rfl) ?_
  refine lv_aload hx hb dX0_inLadles_28 (lv_at hl 0 rfl) ?_
  refine gf_ladle_stuff (d := 0) (fun X => X) Fr_id cx wo (by omega) m_230 dX0_inLadles_30 ?_
  refine topv (y := .ref (ad 4)) rfl ?_
  refine lv_iload_n hx hb dX0_inLadles_33 rfl (lv_at hl 6 rfl) ?_
  refine call_V (As := [.int k]) (rest := [.int 0]) (fun X => X) Fr_id cx (c_X4_of l G ad _ (t := 4) (by omega) (by omega) k) fx_X4_of m_564 m_488 m_489 ⟨by decide, by decide⟩ wo (at_stuff G _ _ (t := 4) (by omega) (by omega)) rfl rfl rfl hl.1 rfl (Nat.le_of_ble_eq_true rfl) dX0_inLadles_34 ⟨by decide, by decide⟩ (fun v W1 H locs hp wo => ?_)
  obtain ⟨rfl, rfl⟩ := hp
  refine nrm_i ?_
  refine lv_iadd hx hb dX0_inLadles_37 ?_
  refine lv_istore_n (lv' := [(2, .int (0 + (m_X4_of g 4 k))), (6, .ref (ad (22 + 0))), (5, .int 0), (4, .int 4), (3, .ref (ad 30)), (0, .ref (ad 12)), (1, .int k)]) hx hb dX0_inLadles_38 rfl hl (by decide) rfl (fun ls hl => ?_)
  refine lv_iinc (v := 1) (lv' := [(5, .int 1), (2, .int (0 + (m_X4_of g 4 k))), (6, .ref (ad (22 + 0))), (4, .int 4), (3, .ref (ad 30)), (0, .ref (ad 12)), (1, .int k)]) hx hb dX0_inLadles_39 hl (k := 2) rfl (by decide) (by decide) rfl (fun ls hl => ?_)
  refine lv_goto (tgt := 14) hx hb dX0_inLadles_42 (by decide) ?_
  refine lv_iload hx hb dX0_inLadles_14 (lv_at hl 0 rfl) ?_
  refine lv_iload hx hb dX0_inLadles_16 (lv_at hl 3 rfl) ?_
  refine lv_icmp_ge (tgt := 45) hx hb dX0_inLadles_18 (by decide) (fun h => absurd h (by decide)) (fun _ => ?_)
  refine lv_aload_n hx hb dX0_inLadles_21 rfl (lv_at hl 4 rfl) ?_
  refine lv_iload hx hb dX0_inLadles_22 (lv_at hl 0 rfl) ?_
  refine ald_r (n := 1) (fun X => X) Fr_id cx wo (at_ls G _ _) (t0 := 2) rfl rfl (by omega) (by decide) dX0_inLadles_24 ?_
  refine topv (y := .ref (ad (22 + 1))) rfl ?_
  refine lv_astore (lv' := [(6, .ref (ad (22 + 1))), (5, .int 1), (2, .int (0 + (m_X4_of g 4 k))), (4, .int 4), (3, .ref (ad 30)), (0, .ref (ad 12)), (1, .int k)]) hx hb dX0_inLadles_25 hl (by decide) rfl (fun ls hl => ?_)
  refine lv_iload_n hx hb dX0_inLadles_27 rfl (lv_at hl 2 rfl) ?_
  refine lv_aload hx hb dX0_inLadles_28 (lv_at hl 0 rfl) ?_
  refine gf_ladle_stuff (d := 1) (fun X => X) Fr_id cx wo (by omega) m_230 dX0_inLadles_30 ?_
  refine topv (y := .ref (ad 5)) rfl ?_
  refine lv_iload_n hx hb dX0_inLadles_33 rfl (lv_at hl 6 rfl) ?_
  refine call_V (As := [.int k]) (rest := [.int (0 + (m_X4_of g 4 k))]) (fun X => X) Fr_id cx (c_X4_of l G ad _ (t := 5) (by omega) (by omega) k) fx_X4_of m_564 m_488 m_489 ⟨by decide, by decide⟩ wo (at_stuff G _ _ (t := 5) (by omega) (by omega)) rfl rfl rfl hl.1 rfl (Nat.le_of_ble_eq_true rfl) dX0_inLadles_34 ⟨by decide, by decide⟩ (fun v W1 H locs hp wo => ?_)
  obtain ⟨rfl, rfl⟩ := hp
  refine nrm_i ?_
  refine lv_iadd hx hb dX0_inLadles_37 ?_
  refine lv_istore_n (lv' := [(2, .int ((0 + (m_X4_of g 4 k)) + (m_X4_of g 5 k))), (6, .ref (ad (22 + 1))), (5, .int 1), (4, .int 4), (3, .ref (ad 30)), (0, .ref (ad 12)), (1, .int k)]) hx hb dX0_inLadles_38 rfl hl (by decide) rfl (fun ls hl => ?_)
  refine lv_iinc (v := 2) (lv' := [(5, .int 2), (2, .int ((0 + (m_X4_of g 4 k)) + (m_X4_of g 5 k))), (6, .ref (ad (22 + 1))), (4, .int 4), (3, .ref (ad 30)), (0, .ref (ad 12)), (1, .int k)]) hx hb dX0_inLadles_39 hl (k := 2) rfl (by decide) (by decide) rfl (fun ls hl => ?_)
  refine lv_goto (tgt := 14) hx hb dX0_inLadles_42 (by decide) ?_
  refine lv_iload hx hb dX0_inLadles_14 (lv_at hl 0 rfl) ?_
  refine lv_iload hx hb dX0_inLadles_16 (lv_at hl 3 rfl) ?_
  refine lv_icmp_ge (tgt := 45) hx hb dX0_inLadles_18 (by decide) (fun h => absurd h (by decide)) (fun _ => ?_)
  refine lv_aload_n hx hb dX0_inLadles_21 rfl (lv_at hl 4 rfl) ?_
  refine lv_iload hx hb dX0_inLadles_22 (lv_at hl 0 rfl) ?_
  refine ald_r (n := 2) (fun X => X) Fr_id cx wo (at_ls G _ _) (t0 := 2) rfl rfl (by omega) (by decide) dX0_inLadles_24 ?_
  refine topv (y := .ref (ad (22 + 2))) rfl ?_
  refine lv_astore (lv' := [(6, .ref (ad (22 + 2))), (5, .int 2), (2, .int ((0 + (m_X4_of g 4 k)) + (m_X4_of g 5 k))), (4, .int 4), (3, .ref (ad 30)), (0, .ref (ad 12)), (1, .int k)]) hx hb dX0_inLadles_25 hl (by decide) rfl (fun ls hl => ?_)
  refine lv_iload_n hx hb dX0_inLadles_27 rfl (lv_at hl 2 rfl) ?_
  refine lv_aload hx hb dX0_inLadles_28 (lv_at hl 0 rfl) ?_
  refine gf_ladle_stuff (d := 2) (fun X => X) Fr_id cx wo (by omega) m_230 dX0_inLadles_30 ?_
  refine topv (y := .ref (ad 6)) rfl ?_
  refine lv_iload_n hx hb dX0_inLadles_33 rfl (lv_at hl 6 rfl) ?_
  refine call_V (As := [.int k]) (rest := [.int ((0 + (m_X4_of g 4 k)) + (m_X4_of g 5 k))]) (fun X => X) Fr_id cx (c_X4_of l G ad _ (t := 6) (by omega) (by omega) k) fx_X4_of m_564 m_488 m_489 ⟨by decide, by decide⟩ wo (at_stuff G _ _ (t := 6) (by omega) (by omega)) rfl rfl rfl hl.1 rfl (Nat.le_of_ble_eq_true rfl) dX0_inLadles_34 ⟨by decide, by decide⟩ (fun v W1 H locs hp wo => ?_)
  obtain ⟨rfl, rfl⟩ := hp
  refine nrm_i ?_
  refine lv_iadd hx hb dX0_inLadles_37 ?_
  refine lv_istore_n (lv' := [(2, .int (((0 + (m_X4_of g 4 k)) + (m_X4_of g 5 k)) + (m_X4_of g 6 k))), (6, .ref (ad (22 + 2))), (5, .int 2), (4, .int 4), (3, .ref (ad 30)), (0, .ref (ad 12)), (1, .int k)]) hx hb dX0_inLadles_38 rfl hl (by decide) rfl (fun ls hl => ?_)
  refine lv_iinc (v := 3) (lv' := [(5, .int 3), (2, .int (((0 + (m_X4_of g 4 k)) + (m_X4_of g 5 k)) + (m_X4_of g 6 k))), (6, .ref (ad (22 + 2))), (4, .int 4), (3, .ref (ad 30)), (0, .ref (ad 12)), (1, .int k)]) hx hb dX0_inLadles_39 hl (k := 2) rfl (by decide) (by decide) rfl (fun ls hl => ?_)
  refine lv_goto (tgt := 14) hx hb dX0_inLadles_42 (by decide) ?_
  refine lv_iload hx hb dX0_inLadles_14 (lv_at hl 0 rfl) ?_
  refine lv_iload hx hb dX0_inLadles_16 (lv_at hl 3 rfl) ?_
  refine lv_icmp_ge (tgt := 45) hx hb dX0_inLadles_18 (by decide) (fun h => absurd h (by decide)) (fun _ => ?_)
  refine lv_aload_n hx hb dX0_inLadles_21 rfl (lv_at hl 4 rfl) ?_
  refine lv_iload hx hb dX0_inLadles_22 (lv_at hl 0 rfl) ?_
  refine ald_r (n := 3) (fun X => X) Fr_id cx wo (at_ls G _ _) (t0 := 2) rfl rfl (by omega) (by decide) dX0_inLadles_24 ?_
  refine topv (y := .ref (ad (22 + 3))) rfl ?_
  refine lv_astore (lv' := [(6, .ref (ad (22 + 3))), (5, .int 3), (2, .int (((0 + (m_X4_of g 4 k)) + (m_X4_of g 5 k)) + (m_X4_of g 6 k))), (4, .int 4), (3, .ref (ad 30)), (0, .ref (ad 12)), (1, .int k)]) hx hb dX0_inLadles_25 hl (by decide) rfl (fun ls hl => ?_)
  refine lv_iload_n hx hb dX0_inLadles_27 rfl (lv_at hl 2 rfl) ?_
  refine lv_aload hx hb dX0_inLadles_28 (lv_at hl 0 rfl) ?_
  refine gf_ladle_stuff (d := 3) (fun X => X) Fr_id cx wo (by omega) m_230 dX0_inLadles_30 ?_
  refine topv (y := .ref (ad 7)) rfl ?_
  refine lv_iload_n hx hb dX0_inLadles_33 rfl (lv_at hl 6 rfl) ?_
  refine call_V (As := [.int k]) (rest := [.int (((0 + (m_X4_of g 4 k)) + (m_X4_of g 5 k)) + (m_X4_of g 6 k))]) (fun X => X) Fr_id cx (c_X4_of l G ad _ (t := 7) (by omega) (by omega) k) fx_X4_of m_564 m_488 m_489 ⟨by decide, by decide⟩ wo (at_stuff G _ _ (t := 7) (by omega) (by omega)) rfl rfl rfl hl.1 rfl (Nat.le_of_ble_eq_true rfl) dX0_inLadles_34 ⟨by decide, by decide⟩ (fun v W1 H locs hp wo => ?_)
  obtain ⟨rfl, rfl⟩ := hp
  refine nrm_i ?_
  refine lv_iadd hx hb dX0_inLadles_37 ?_
  refine lv_istore_n (lv' := [(2, .int ((((0 + (m_X4_of g 4 k)) + (m_X4_of g 5 k)) + (m_X4_of g 6 k)) + (m_X4_of g 7 k))), (6, .ref (ad (22 + 3))), (5, .int 3), (4, .int 4), (3, .ref (ad 30)), (0, .ref (ad 12)), (1, .int k)]) hx hb dX0_inLadles_38 rfl hl (by decide) rfl (fun ls hl => ?_)
  refine lv_iinc (v := 4) (lv' := [(5, .int 4), (2, .int ((((0 + (m_X4_of g 4 k)) + (m_X4_of g 5 k)) + (m_X4_of g 6 k)) + (m_X4_of g 7 k))), (6, .ref (ad (22 + 3))), (4, .int 4), (3, .ref (ad 30)), (0, .ref (ad 12)), (1, .int k)]) hx hb dX0_inLadles_39 hl (k := 2) rfl (by decide) (by decide) rfl (fun ls hl => ?_)
  refine lv_goto (tgt := 14) hx hb dX0_inLadles_42 (by decide) ?_
  refine lv_iload hx hb dX0_inLadles_14 (lv_at hl 0 rfl) ?_
  refine lv_iload hx hb dX0_inLadles_16 (lv_at hl 3 rfl) ?_
  refine lv_icmp_ge (tgt := 45) hx hb dX0_inLadles_18 (by decide) (fun _ => ?_) (fun h => absurd (show ¬ _ from h) (by decide))
  refine lv_iload_n hx hb dX0_inLadles_45 rfl (lv_at hl 1 rfl) ?_
  exact r2_i cx hQ wo dX0_inLadles_46 (by subst hM; exact ⟨rfl, rfl⟩)
abbrev rm_X0_inSkulls : Room := { frames := 1, cells := 0, slots := 0, locals := 21 }
def m_X0_inSkulls (g : St) (k : Int32) : Int32 :=
  ((((0 + (m_X4_of g 8 k)) + (m_X4_of g 9 k)) + (m_X4_of g 10 k)) + (m_X4_of g 11 k))
set_option maxHeartbeats 4000000 in
set_option maxRecDepth 100000 in
theorem c_X0_inSkulls (l : Launch) (G : GG) (ad : Nat → Nat) (g : St) (k : Int32) : Ct l G yX0_inSkulls cX0_inSkulls 7 (some Jvm.ClassFile.FieldType.int) rm_X0_inSkulls [.ref (ad 12), .int k] (aw G ad g) (fun rv W1 => rv = some (.int (m_X0_inSkulls g k)) ∧ W1 = aw G ad g) := by
  refine Ct.mk2 (by decide) (Nat.le_of_ble_eq_true rfl) ?_
  intro p e s m args below meth c A H locs ls Q cx wo hl hQ
  obtain ⟨hx, hb, hml, hr, hlo, hown, hts, hnm, kn, hA⟩ := id cx
  have hl : lv_has ls 7 [(0, .ref (ad 12)), (1, .int k)] := hl
  generalize hM : m_X0_inSkulls g k = M at hQ
  unfold m_X0_inSkulls at hM
  refine lv_iconst (v := 0) hx hb dX0_inSkulls_0 (by decide) ?_
  refine lv_istore_n (lv' := [(2, .int 0), (0, .ref (ad 12)), (1, .int k)]) hx hb dX0_inSkulls_1 rfl hl (by decide) rfl (fun ls hl => ?_)
  refine lv_aload_n hx hb dX0_inSkulls_2 rfl (lv_at hl 1 rfl) ?_
  refine gf_aisle_ladles (fun X => X) Fr_id cx wo  m_252 dX0_inSkulls_3 ?_
  refine lv_astore_n (lv' := [(3, .ref (ad 30)), (2, .int 0), (0, .ref (ad 12)), (1, .int k)]) hx hb dX0_inSkulls_6 rfl hl (by decide) rfl (fun ls hl => ?_)
  refine lv_aload_n hx hb dX0_inSkulls_7 rfl (lv_at hl 0 rfl) ?_
  refine alen (v := 4) (fun X => X) Fr_id cx wo (at_ls G _ _) (t0 := 2) rfl rfl dX0_inSkulls_8 ?_
  refine lv_istore (lv' := [(4, .int 4), (3, .ref (ad 30)), (2, .int 0), (0, .ref (ad 12)), (1, .int k)]) hx hb dX0_inSkulls_9 hl (by decide) rfl (fun ls hl => ?_)
  refine lv_iconst (v := 0) hx hb dX0_inSkulls_11 (by decide) ?_
  refine lv_istore (lv' := [(5, .int 0), (4, .int 4), (3, .ref (ad 30)), (2, .int 0), (0, .ref (ad 12)), (1, .int k)]) hx hb dX0_inSkulls_12 hl (by decide) rfl (fun ls hl => ?_)
  refine lv_iload hx hb dX0_inSkulls_14 (lv_at hl 0 rfl) ?_
  refine lv_iload hx hb dX0_inSkulls_16 (lv_at hl 1 rfl) ?_
  refine lv_icmp_ge (tgt := 45) hx hb dX0_inSkulls_18 (by decide) (fun h => absurd h (by decide)) (fun _ => ?_)
  refine lv_aload_n hx hb dX0_inSkulls_21 rfl (lv_at hl 2 rfl) ?_
  refine lv_iload hx hb dX0_inSkulls_22 (lv_at hl 0 rfl) ?_
  refine ald_r (n := 0) (fun X => X) Fr_id cx wo (at_ls G _ _) (t0 := 2) rfl rfl (by omega) (by decide) dX0_inSkulls_24 ?_
  refine topv (y := .ref (ad (22 + 0))) rfl ?_
  refine lv_astore (lv' := [(6, .ref (ad (22 + 0))), (5, .int 0), (4, .int 4), (3, .ref (ad 30)), (2, .int 0), (0, .ref (ad 12)), (1, .int k)]) hx hb dX0_inSkulls_25 hl (by decide) rfl (fun ls hl => ?_)
  refine lv_iload_n hx hb dX0_inSkulls_27 rfl (lv_at hl 4 rfl) ?_
  refine lv_aload hx hb dX0_inSkulls_28 (lv_at hl 0 rfl) ?_
  refine gf_ladle_skull (d := 0) (fun X => X) Fr_id cx wo (by omega) m_232 dX0_inSkulls_30 ?_
  refine topv (y := .ref (ad 8)) rfl ?_
  refine lv_iload_n hx hb dX0_inSkulls_33 rfl (lv_at hl 6 rfl) ?_
  refine call_V (As := [.int k]) (rest := [.int 0]) (fun X => X) Fr_id cx (c_X4_of l G ad _ (t := 8) (by omega) (by omega) k) fx_X4_of m_564 m_488 m_489 ⟨by decide, by decide⟩ wo (at_stuff G _ _ (t := 8) (by omega) (by omega)) rfl rfl rfl hl.1 rfl (Nat.le_of_ble_eq_true rfl) dX0_inSkulls_34 ⟨by decide, by decide⟩ (fun v W1 H locs hp wo => ?_)
  obtain ⟨rfl, rfl⟩ := hp
  refine nrm_i ?_
  refine lv_iadd hx hb dX0_inSkulls_37 ?_
  refine lv_istore_n (lv' := [(2, .int (0 + (m_X4_of g 8 k))), (6, .ref (ad (22 + 0))), (5, .int 0), (4, .int 4), (3, .ref (ad 30)), (0, .ref (ad 12)), (1, .int k)]) hx hb dX0_inSkulls_38 rfl hl (by decide) rfl (fun ls hl => ?_)
  refine lv_iinc (v := 1) (lv' := [(5, .int 1), (2, .int (0 + (m_X4_of g 8 k))), (6, .ref (ad (22 + 0))), (4, .int 4), (3, .ref (ad 30)), (0, .ref (ad 12)), (1, .int k)]) hx hb dX0_inSkulls_39 hl (k := 2) rfl (by decide) (by decide) rfl (fun ls hl => ?_)
  refine lv_goto (tgt := 14) hx hb dX0_inSkulls_42 (by decide) ?_
  refine lv_iload hx hb dX0_inSkulls_14 (lv_at hl 0 rfl) ?_
  refine lv_iload hx hb dX0_inSkulls_16 (lv_at hl 3 rfl) ?_
  refine lv_icmp_ge (tgt := 45) hx hb dX0_inSkulls_18 (by decide) (fun h => absurd h (by decide)) (fun _ => ?_)
  refine lv_aload_n hx hb dX0_inSkulls_21 rfl (lv_at hl 4 rfl) ?_
  refine lv_iload hx hb dX0_inSkulls_22 (lv_at hl 0 rfl) ?_
  refine ald_r (n := 1) (fun X => X) Fr_id cx wo (at_ls G _ _) (t0 := 2) rfl rfl (by omega) (by decide) dX0_inSkulls_24 ?_
  refine topv (y := .ref (ad (22 + 1))) rfl ?_
  refine lv_astore (lv' := [(6, .ref (ad (22 + 1))), (5, .int 1), (2, .int (0 + (m_X4_of g 8 k))), (4, .int 4), (3, .ref (ad 30)), (0, .ref (ad 12)), (1, .int k)]) hx hb dX0_inSkulls_25 hl (by decide) rfl (fun ls hl => ?_)
  refine lv_iload_n hx hb dX0_inSkulls_27 rfl (lv_at hl 2 rfl) ?_
  refine lv_aload hx hb dX0_inSkulls_28 (lv_at hl 0 rfl) ?_
  refine gf_ladle_skull (d := 1) (fun X => X) Fr_id cx wo (by omega) m_232 dX0_inSkulls_30 ?_
  refine topv (y := .ref (ad 9)) rfl ?_
  refine lv_iload_n hx hb dX0_inSkulls_33 rfl (lv_at hl 6 rfl) ?_
  refine call_V (As := [.int k]) (rest := [.int (0 + (m_X4_of g 8 k))]) (fun X => X) Fr_id cx (c_X4_of l G ad _ (t := 9) (by omega) (by omega) k) fx_X4_of m_564 m_488 m_489 ⟨by decide, by decide⟩ wo (at_stuff G _ _ (t := 9) (by omega) (by omega)) rfl rfl rfl hl.1 rfl (Nat.le_of_ble_eq_true rfl) dX0_inSkulls_34 ⟨by decide, by decide⟩ (fun v W1 H locs hp wo => ?_)
  obtain ⟨rfl, rfl⟩ := hp
  refine nrm_i ?_
  refine lv_iadd hx hb dX0_inSkulls_37 ?_
  refine lv_istore_n (lv' := [(2, .int ((0 + (m_X4_of g 8 k)) + (m_X4_of g 9 k))), (6, .ref (ad (22 + 1))), (5, .int 1), (4, .int 4), (3, .ref (ad 30)), (0, .ref (ad 12)), (1, .int k)]) hx hb dX0_inSkulls_38 rfl hl (by decide) rfl (fun ls hl => ?_)
  refine lv_iinc (v := 2) (lv' := [(5, .int 2), (2, .int ((0 + (m_X4_of g 8 k)) + (m_X4_of g 9 k))), (6, .ref (ad (22 + 1))), (4, .int 4), (3, .ref (ad 30)), (0, .ref (ad 12)), (1, .int k)]) hx hb dX0_inSkulls_39 hl (k := 2) rfl (by decide) (by decide) rfl (fun ls hl => ?_)
  refine lv_goto (tgt := 14) hx hb dX0_inSkulls_42 (by decide) ?_
  refine lv_iload hx hb dX0_inSkulls_14 (lv_at hl 0 rfl) ?_
  refine lv_iload hx hb dX0_inSkulls_16 (lv_at hl 3 rfl) ?_
  refine lv_icmp_ge (tgt := 45) hx hb dX0_inSkulls_18 (by decide) (fun h => absurd h (by decide)) (fun _ => ?_)
  refine lv_aload_n hx hb dX0_inSkulls_21 rfl (lv_at hl 4 rfl) ?_
  refine lv_iload hx hb dX0_inSkulls_22 (lv_at hl 0 rfl) ?_
  refine ald_r (n := 2) (fun X => X) Fr_id cx wo (at_ls G _ _) (t0 := 2) rfl rfl (by omega) (by decide) dX0_inSkulls_24 ?_
  refine topv (y := .ref (ad (22 + 2))) rfl ?_
  refine lv_astore (lv' := [(6, .ref (ad (22 + 2))), (5, .int 2), (2, .int ((0 + (m_X4_of g 8 k)) + (m_X4_of g 9 k))), (4, .int 4), (3, .ref (ad 30)), (0, .ref (ad 12)), (1, .int k)]) hx hb dX0_inSkulls_25 hl (by decide) rfl (fun ls hl => ?_)
  refine lv_iload_n hx hb dX0_inSkulls_27 rfl (lv_at hl 2 rfl) ?_
  refine lv_aload hx hb dX0_inSkulls_28 (lv_at hl 0 rfl) ?_
  refine gf_ladle_skull (d := 2) (fun X => X) Fr_id cx wo (by omega) m_232 dX0_inSkulls_30 ?_
  refine topv (y := .ref (ad 10)) rfl ?_
  refine lv_iload_n hx hb dX0_inSkulls_33 rfl (lv_at hl 6 rfl) ?_
  refine call_V (As := [.int k]) (rest := [.int ((0 + (m_X4_of g 8 k)) + (m_X4_of g 9 k))]) (fun X => X) Fr_id cx (c_X4_of l G ad _ (t := 10) (by omega) (by omega) k) fx_X4_of m_564 m_488 m_489 ⟨by decide, by decide⟩ wo (at_stuff G _ _ (t := 10) (by omega) (by omega)) rfl rfl rfl hl.1 rfl (Nat.le_of_ble_eq_true rfl) dX0_inSkulls_34 ⟨by decide, by decide⟩ (fun v W1 H locs hp wo => ?_)
  obtain ⟨rfl, rfl⟩ := hp
  refine nrm_i ?_
  refine lv_iadd hx hb dX0_inSkulls_37 ?_
  refine lv_istore_n (lv' := [(2, .int (((0 + (m_X4_of g 8 k)) + (m_X4_of g 9 k)) + (m_X4_of g 10 k))), (6, .ref (ad (22 + 2))), (5, .int 2), (4, .int 4), (3, .ref (ad 30)), (0, .ref (ad 12)), (1, .int k)]) hx hb dX0_inSkulls_38 rfl hl (by decide) rfl (fun ls hl => ?_)
  refine lv_iinc (v := 3) (lv' := [(5, .int 3), (2, .int (((0 + (m_X4_of g 8 k)) + (m_X4_of g 9 k)) + (m_X4_of g 10 k))), (6, .ref (ad (22 + 2))), (4, .int 4), (3, .ref (ad 30)), (0, .ref (ad 12)), (1, .int k)]) hx hb dX0_inSkulls_39 hl (k := 2) rfl (by decide) (by decide) rfl (fun ls hl => ?_)
  refine lv_goto (tgt := 14) hx hb dX0_inSkulls_42 (by decide) ?_
  refine lv_iload hx hb dX0_inSkulls_14 (lv_at hl 0 rfl) ?_
  refine lv_iload hx hb dX0_inSkulls_16 (lv_at hl 3 rfl) ?_
  refine lv_icmp_ge (tgt := 45) hx hb dX0_inSkulls_18 (by decide) (fun h => absurd h (by decide)) (fun _ => ?_)
  refine lv_aload_n hx hb dX0_inSkulls_21 rfl (lv_at hl 4 rfl) ?_
  refine lv_iload hx hb dX0_inSkulls_22 (lv_at hl 0 rfl) ?_
  refine ald_r (n := 3) (fun X => X) Fr_id cx wo (at_ls G _ _) (t0 := 2) rfl rfl (by omega) (by decide) dX0_inSkulls_24 ?_
  refine topv (y := .ref (ad (22 + 3))) rfl ?_
  refine lv_astore (lv' := [(6, .ref (ad (22 + 3))), (5, .int 3), (2, .int (((0 + (m_X4_of g 8 k)) + (m_X4_of g 9 k)) + (m_X4_of g 10 k))), (4, .int 4), (3, .ref (ad 30)), (0, .ref (ad 12)), (1, .int k)]) hx hb dX0_inSkulls_25 hl (by decide) rfl (fun ls hl => ?_)
  refine lv_iload_n hx hb dX0_inSkulls_27 rfl (lv_at hl 2 rfl) ?_
  refine lv_aload hx hb dX0_inSkulls_28 (lv_at hl 0 rfl) ?_
  refine gf_ladle_skull (d := 3) (fun X => X) Fr_id cx wo (by omega) m_232 dX0_inSkulls_30 ?_
  refine topv (y := .ref (ad 11)) rfl ?_
  refine lv_iload_n hx hb dX0_inSkulls_33 rfl (lv_at hl 6 rfl) ?_
  refine call_V (As := [.int k]) (rest := [.int (((0 + (m_X4_of g 8 k)) + (m_X4_of g 9 k)) + (m_X4_of g 10 k))]) (fun X => X) Fr_id cx (c_X4_of l G ad _ (t := 11) (by omega) (by omega) k) fx_X4_of m_564 m_488 m_489 ⟨by decide, by decide⟩ wo (at_stuff G _ _ (t := 11) (by omega) (by omega)) rfl rfl rfl hl.1 rfl (Nat.le_of_ble_eq_true rfl) dX0_inSkulls_34 ⟨by decide, by decide⟩ (fun v W1 H locs hp wo => ?_)
  obtain ⟨rfl, rfl⟩ := hp
  refine nrm_i ?_
  refine lv_iadd hx hb dX0_inSkulls_37 ?_
  refine lv_istore_n (lv' := [(2, .int ((((0 + (m_X4_of g 8 k)) + (m_X4_of g 9 k)) + (m_X4_of g 10 k)) + (m_X4_of g 11 k))), (6, .ref (ad (22 + 3))), (5, .int 3), (4, .int 4), (3, .ref (ad 30)), (0, .ref (ad 12)), (1, .int k)]) hx hb dX0_inSkulls_38 rfl hl (by decide) rfl (fun ls hl => ?_)
  refine lv_iinc (v := 4) (lv' := [(5, .int 4), (2, .int ((((0 + (m_X4_of g 8 k)) + (m_X4_of g 9 k)) + (m_X4_of g 10 k)) + (m_X4_of g 11 k))), (6, .ref (ad (22 + 3))), (4, .int 4), (3, .ref (ad 30)), (0, .ref (ad 12)), (1, .int k)]) hx hb dX0_inSkulls_39 hl (k := 2) rfl (by decide) (by decide) rfl (fun ls hl => ?_)
  refine lv_goto (tgt := 14) hx hb dX0_inSkulls_42 (by decide) ?_
  refine lv_iload hx hb dX0_inSkulls_14 (lv_at hl 0 rfl) ?_
  refine lv_iload hx hb dX0_inSkulls_16 (lv_at hl 3 rfl) ?_
  refine lv_icmp_ge (tgt := 45) hx hb dX0_inSkulls_18 (by decide) (fun _ => ?_) (fun h => absurd (show ¬ _ from h) (by decide))
  refine lv_iload_n hx hb dX0_inSkulls_45 rfl (lv_at hl 1 rfl) ?_
  exact r2_i cx hQ wo dX0_inSkulls_46 (by subst hM; exact ⟨rfl, rfl⟩)
abbrev rm_X0_stuffAt : Room := { frames := 2, cells := 0, slots := 0, locals := 47 }
def m_X0_stuffAt (g : St) (n : Int32) (k : Int32) : Int32 :=
  if n = 0 then (m_X4_of g 0 k)
  else if n = 1 then (m_X0_inVessels g k)
  else if n = 2 then (m_X0_inLadles g k)
  else if n = 3 then (m_X0_inSkulls g k)
  else if n = 4 then (if k = 1 then ((g 48) + (5 * (g 143)))
    else 0)
  else if n = 5 then (m_X4_of g 13 k)
  else if n = 6 then (m_X4_of g 14 k)
  else if n = 7 then (m_X4_of g 15 k)
  else if n = 8 then (m_X4_of g 16 k)
  else if n = 9 then (m_X4_of g 17 k)
  else if n = 10 then (m_X4_of g 18 k)
  else (-1)
set_option maxHeartbeats 4000000 in
set_option maxRecDepth 100000 in
theorem c_X0_stuffAt (l : Launch) (G : GG) (ad : Nat → Nat) (g : St) (n : Int32) (k : Int32) : Ct l G yX0_stuffAt cX0_stuffAt 3 (some Jvm.ClassFile.FieldType.int) rm_X0_stuffAt [.ref (ad 12), .int n, .int k] (aw G ad g) (fun rv W1 => rv = some (.int (m_X0_stuffAt g n k)) ∧ W1 = aw G ad g) := by
  refine Ct.mk2 (by decide) (Nat.le_of_ble_eq_true rfl) ?_
  intro p e s m args below meth c A H locs ls Q cx wo hl hQ
  obtain ⟨hx, hb, hml, hr, hlo, hown, hts, hnm, kn, hA⟩ := id cx
  have hl : lv_has ls 3 [(0, .ref (ad 12)), (1, .int n), (2, .int k)] := hl
  generalize hM : m_X0_stuffAt g n k = M at hQ
  unfold m_X0_stuffAt at hM
  refine lv_iload_n hx hb dX0_stuffAt_0 rfl (lv_at hl 1 rfl) ?_
  by_cases c_1 : n = 0
  · skip
    rw [if_pos c_1] at hM
    refine lv_tableIn (off := 59) (tgt := 60) hx hb dX0_stuffAt_1 (by rw [c_1]; decide) (by rw [c_1]; decide) (by rw [c_1]; decide) (by decide) ?_
    refine lv_aload_n hx hb dX0_stuffAt_60 rfl (lv_at hl 0 rfl) ?_
    refine gf_aisle_furnace (fun X => X) Fr_id cx wo  m_250 dX0_stuffAt_61 ?_
    refine lv_iload_n hx hb dX0_stuffAt_64 rfl (lv_at hl 2 rfl) ?_
    refine call_V (As := [.int k]) (rest := []) (fun X => X) Fr_id cx (c_X4_of l G ad _ (t := 0) (by omega) (by omega) k) fx_X4_of m_564 m_488 m_489 ⟨by decide, by decide⟩ wo (at_stuff G _ _ (t := 0) (by omega) (by omega)) rfl rfl rfl hl.1 rfl (Nat.le_of_ble_eq_true rfl) dX0_stuffAt_65 ⟨by decide, by decide⟩ (fun v W1 H locs hp wo => ?_)
    obtain ⟨rfl, rfl⟩ := hp
    refine nrm_i ?_
    exact r2_i cx hQ wo dX0_stuffAt_68 (by subst hM; exact ⟨rfl, rfl⟩)
  rw [if_neg c_1] at hM
  by_cases c_2 : n = 1
  · skip
    rw [if_pos c_2] at hM
    refine lv_tableIn (off := 68) (tgt := 69) hx hb dX0_stuffAt_1 (by rw [c_2]; decide) (by rw [c_2]; decide) (by rw [c_2]; decide) (by decide) ?_
    refine lv_aload_n hx hb dX0_stuffAt_69 rfl (lv_at hl 0 rfl) ?_
    refine lv_iload_n hx hb dX0_stuffAt_70 rfl (lv_at hl 2 rfl) ?_
    refine call_V (As := [.int k]) (rest := []) (fun X => X) Fr_id cx (c_X0_inVessels l G ad _ k) fx_X0_inVessels m_565 m_567 m_16 ⟨by decide, by decide⟩ wo (at_aisle G _ _ ) rfl rfl rfl hl.1 rfl (Nat.le_of_ble_eq_true rfl) dX0_stuffAt_71 ⟨by decide, by decide⟩ (fun v W1 H locs hp wo => ?_)
    obtain ⟨rfl, rfl⟩ := hp
    refine nrm_i ?_
    exact r2_i cx hQ wo dX0_stuffAt_74 (by subst hM; exact ⟨rfl, rfl⟩)
  rw [if_neg c_2] at hM
  by_cases c_3 : n = 2
  · skip
    rw [if_pos c_3] at hM
    refine lv_tableIn (off := 74) (tgt := 75) hx hb dX0_stuffAt_1 (by rw [c_3]; decide) (by rw [c_3]; decide) (by rw [c_3]; decide) (by decide) ?_
    refine lv_aload_n hx hb dX0_stuffAt_75 rfl (lv_at hl 0 rfl) ?_
    refine lv_iload_n hx hb dX0_stuffAt_76 rfl (lv_at hl 2 rfl) ?_
    refine call_V (As := [.int k]) (rest := []) (fun X => X) Fr_id cx (c_X0_inLadles l G ad _ k) fx_X0_inLadles m_569 m_571 m_17 ⟨by decide, by decide⟩ wo (at_aisle G _ _ ) rfl rfl rfl hl.1 rfl (Nat.le_of_ble_eq_true rfl) dX0_stuffAt_77 ⟨by decide, by decide⟩ (fun v W1 H locs hp wo => ?_)
    obtain ⟨rfl, rfl⟩ := hp
    refine nrm_i ?_
    exact r2_i cx hQ wo dX0_stuffAt_80 (by subst hM; exact ⟨rfl, rfl⟩)
  rw [if_neg c_3] at hM
  by_cases c_4 : n = 3
  · skip
    rw [if_pos c_4] at hM
    refine lv_tableIn (off := 80) (tgt := 81) hx hb dX0_stuffAt_1 (by rw [c_4]; decide) (by rw [c_4]; decide) (by rw [c_4]; decide) (by decide) ?_
    refine lv_aload_n hx hb dX0_stuffAt_81 rfl (lv_at hl 0 rfl) ?_
    refine lv_iload_n hx hb dX0_stuffAt_82 rfl (lv_at hl 2 rfl) ?_
    refine call_V (As := [.int k]) (rest := []) (fun X => X) Fr_id cx (c_X0_inSkulls l G ad _ k) fx_X0_inSkulls m_573 m_575 m_18 ⟨by decide, by decide⟩ wo (at_aisle G _ _ ) rfl rfl rfl hl.1 rfl (Nat.le_of_ble_eq_true rfl) dX0_stuffAt_83 ⟨by decide, by decide⟩ (fun v W1 H locs hp wo => ?_)
    obtain ⟨rfl, rfl⟩ := hp
    refine nrm_i ?_
    exact r2_i cx hQ wo dX0_stuffAt_86 (by subst hM; exact ⟨rfl, rfl⟩)
  rw [if_neg c_4] at hM
  by_cases c_5 : n = 4
  · skip
    rw [if_pos c_5] at hM
    refine lv_tableIn (off := 86) (tgt := 87) hx hb dX0_stuffAt_1 (by rw [c_5]; decide) (by rw [c_5]; decide) (by rw [c_5]; decide) (by decide) ?_
    refine lv_iload_n hx hb dX0_stuffAt_87 rfl (lv_at hl 2 rfl) ?_
    refine lv_iconst (v := 1) hx hb dX0_stuffAt_88 (by decide) ?_
    refine lv_icmp_ne (tgt := 109) hx hb dX0_stuffAt_89 (by decide) (fun c_6 => ?_) (fun c_6 => ?_)
    · skip
      rw [if_neg c_6] at hM
      refine lv_iconst (v := 0) hx hb dX0_stuffAt_109 (by decide) ?_
      exact r2_i cx hQ wo dX0_stuffAt_110 (by subst hM; exact ⟨rfl, rfl⟩)
    · skip
      rw [if_pos c_6] at hM
      refine lv_aload_n hx hb dX0_stuffAt_92 rfl (lv_at hl 0 rfl) ?_
      refine gf_aisle_wheelCopper (fun X => X) Fr_id cx wo  m_257 dX0_stuffAt_93 ?_
      refine lv_iconst (v := 5) hx hb dX0_stuffAt_96 (by decide) ?_
      refine lv_aload_n hx hb dX0_stuffAt_97 rfl (lv_at hl 0 rfl) ?_
      refine gf_aisle_books (fun X => X) Fr_id cx wo  m_255 dX0_stuffAt_98 ?_
      refine gf_books_anodes (fun X => X) Fr_id cx wo  m_154 dX0_stuffAt_101 ?_
      refine lv_imul hx hb dX0_stuffAt_104 ?_
      refine lv_iadd hx hb dX0_stuffAt_105 ?_
      refine lv_goto (tgt := 110) hx hb dX0_stuffAt_106 (by decide) ?_
      exact r2_i cx hQ wo dX0_stuffAt_110 (by subst hM; exact ⟨rfl, rfl⟩)
  rw [if_neg c_5] at hM
  by_cases c_7 : n = 5
  · skip
    rw [if_pos c_7] at hM
    refine lv_tableIn (off := 110) (tgt := 111) hx hb dX0_stuffAt_1 (by rw [c_7]; decide) (by rw [c_7]; decide) (by rw [c_7]; decide) (by decide) ?_
    refine lv_aload_n hx hb dX0_stuffAt_111 rfl (lv_at hl 0 rfl) ?_
    refine gf_aisle_books (fun X => X) Fr_id cx wo  m_255 dX0_stuffAt_112 ?_
    refine gf_books_pot (fun X => X) Fr_id cx wo  m_136 dX0_stuffAt_115 ?_
    refine lv_iload_n hx hb dX0_stuffAt_118 rfl (lv_at hl 2 rfl) ?_
    refine call_V (As := [.int k]) (rest := []) (fun X => X) Fr_id cx (c_X4_of l G ad _ (t := 13) (by omega) (by omega) k) fx_X4_of m_564 m_488 m_489 ⟨by decide, by decide⟩ wo (at_stuff G _ _ (t := 13) (by omega) (by omega)) rfl rfl rfl hl.1 rfl (Nat.le_of_ble_eq_true rfl) dX0_stuffAt_119 ⟨by decide, by decide⟩ (fun v W1 H locs hp wo => ?_)
    obtain ⟨rfl, rfl⟩ := hp
    refine nrm_i ?_
    exact r2_i cx hQ wo dX0_stuffAt_122 (by subst hM; exact ⟨rfl, rfl⟩)
  rw [if_neg c_7] at hM
  by_cases c_8 : n = 6
  · skip
    rw [if_pos c_8] at hM
    refine lv_tableIn (off := 122) (tgt := 123) hx hb dX0_stuffAt_1 (by rw [c_8]; decide) (by rw [c_8]; decide) (by rw [c_8]; decide) (by decide) ?_
    refine lv_aload_n hx hb dX0_stuffAt_123 rfl (lv_at hl 0 rfl) ?_
    refine gf_aisle_books (fun X => X) Fr_id cx wo  m_255 dX0_stuffAt_124 ?_
    refine gf_books_givenBack (fun X => X) Fr_id cx wo  m_138 dX0_stuffAt_127 ?_
    refine lv_iload_n hx hb dX0_stuffAt_130 rfl (lv_at hl 2 rfl) ?_
    refine call_V (As := [.int k]) (rest := []) (fun X => X) Fr_id cx (c_X4_of l G ad _ (t := 14) (by omega) (by omega) k) fx_X4_of m_564 m_488 m_489 ⟨by decide, by decide⟩ wo (at_stuff G _ _ (t := 14) (by omega) (by omega)) rfl rfl rfl hl.1 rfl (Nat.le_of_ble_eq_true rfl) dX0_stuffAt_131 ⟨by decide, by decide⟩ (fun v W1 H locs hp wo => ?_)
    obtain ⟨rfl, rfl⟩ := hp
    refine nrm_i ?_
    exact r2_i cx hQ wo dX0_stuffAt_134 (by subst hM; exact ⟨rfl, rfl⟩)
  rw [if_neg c_8] at hM
  by_cases c_9 : n = 7
  · skip
    rw [if_pos c_9] at hM
    refine lv_tableIn (off := 134) (tgt := 135) hx hb dX0_stuffAt_1 (by rw [c_9]; decide) (by rw [c_9]; decide) (by rw [c_9]; decide) (by decide) ?_
    refine lv_aload_n hx hb dX0_stuffAt_135 rfl (lv_at hl 0 rfl) ?_
    refine gf_aisle_books (fun X => X) Fr_id cx wo  m_255 dX0_stuffAt_136 ?_
    refine gf_books_cleanedOff (fun X => X) Fr_id cx wo  m_140 dX0_stuffAt_139 ?_
    refine lv_iload_n hx hb dX0_stuffAt_142 rfl (lv_at hl 2 rfl) ?_
    refine call_V (As := [.int k]) (rest := []) (fun X => X) Fr_id cx (c_X4_of l G ad _ (t := 15) (by omega) (by omega) k) fx_X4_of m_564 m_488 m_489 ⟨by decide, by decide⟩ wo (at_stuff G _ _ (t := 15) (by omega) (by omega)) rfl rfl rfl hl.1 rfl (Nat.le_of_ble_eq_true rfl) dX0_stuffAt_143 ⟨by decide, by decide⟩ (fun v W1 H locs hp wo => ?_)
    obtain ⟨rfl, rfl⟩ := hp
    refine nrm_i ?_
    exact r2_i cx hQ wo dX0_stuffAt_146 (by subst hM; exact ⟨rfl, rfl⟩)
  rw [if_neg c_9] at hM
  by_cases c_10 : n = 8
  · skip
    rw [if_pos c_10] at hM
    refine lv_tableIn (off := 146) (tgt := 147) hx hb dX0_stuffAt_1 (by rw [c_10]; decide) (by rw [c_10]; decide) (by rw [c_10]; decide) (by decide) ?_
    refine lv_aload_n hx hb dX0_stuffAt_147 rfl (lv_at hl 0 rfl) ?_
    refine gf_aisle_books (fun X => X) Fr_id cx wo  m_255 dX0_stuffAt_148 ?_
    refine gf_books_cameIn (fun X => X) Fr_id cx wo  m_143 dX0_stuffAt_151 ?_
    refine lv_iload_n hx hb dX0_stuffAt_154 rfl (lv_at hl 2 rfl) ?_
    refine call_V (As := [.int k]) (rest := []) (fun X => X) Fr_id cx (c_X4_of l G ad _ (t := 16) (by omega) (by omega) k) fx_X4_of m_564 m_488 m_489 ⟨by decide, by decide⟩ wo (at_stuff G _ _ (t := 16) (by omega) (by omega)) rfl rfl rfl hl.1 rfl (Nat.le_of_ble_eq_true rfl) dX0_stuffAt_155 ⟨by decide, by decide⟩ (fun v W1 H locs hp wo => ?_)
    obtain ⟨rfl, rfl⟩ := hp
    refine nrm_i ?_
    exact r2_i cx hQ wo dX0_stuffAt_158 (by subst hM; exact ⟨rfl, rfl⟩)
  rw [if_neg c_10] at hM
  by_cases c_11 : n = 9
  · skip
    rw [if_pos c_11] at hM
    refine lv_tableIn (off := 158) (tgt := 159) hx hb dX0_stuffAt_1 (by rw [c_11]; decide) (by rw [c_11]; decide) (by rw [c_11]; decide) (by decide) ?_
    refine lv_aload_n hx hb dX0_stuffAt_159 rfl (lv_at hl 0 rfl) ?_
    refine gf_aisle_books (fun X => X) Fr_id cx wo  m_255 dX0_stuffAt_160 ?_
    refine gf_books_becameOther (fun X => X) Fr_id cx wo  m_145 dX0_stuffAt_163 ?_
    refine lv_iload_n hx hb dX0_stuffAt_166 rfl (lv_at hl 2 rfl) ?_
    refine call_V (As := [.int k]) (rest := []) (fun X => X) Fr_id cx (c_X4_of l G ad _ (t := 17) (by omega) (by omega) k) fx_X4_of m_564 m_488 m_489 ⟨by decide, by decide⟩ wo (at_stuff G _ _ (t := 17) (by omega) (by omega)) rfl rfl rfl hl.1 rfl (Nat.le_of_ble_eq_true rfl) dX0_stuffAt_167 ⟨by decide, by decide⟩ (fun v W1 H locs hp wo => ?_)
    obtain ⟨rfl, rfl⟩ := hp
    refine nrm_i ?_
    exact r2_i cx hQ wo dX0_stuffAt_170 (by subst hM; exact ⟨rfl, rfl⟩)
  rw [if_neg c_11] at hM
  by_cases c_12 : n = 10
  · skip
    rw [if_pos c_12] at hM
    refine lv_tableIn (off := 170) (tgt := 171) hx hb dX0_stuffAt_1 (by rw [c_12]; decide) (by rw [c_12]; decide) (by rw [c_12]; decide) (by decide) ?_
    refine lv_aload_n hx hb dX0_stuffAt_171 rfl (lv_at hl 0 rfl) ?_
    refine gf_aisle_books (fun X => X) Fr_id cx wo  m_255 dX0_stuffAt_172 ?_
    refine gf_books_cameOfOthers (fun X => X) Fr_id cx wo  m_147 dX0_stuffAt_175 ?_
    refine lv_iload_n hx hb dX0_stuffAt_178 rfl (lv_at hl 2 rfl) ?_
    refine call_V (As := [.int k]) (rest := []) (fun X => X) Fr_id cx (c_X4_of l G ad _ (t := 18) (by omega) (by omega) k) fx_X4_of m_564 m_488 m_489 ⟨by decide, by decide⟩ wo (at_stuff G _ _ (t := 18) (by omega) (by omega)) rfl rfl rfl hl.1 rfl (Nat.le_of_ble_eq_true rfl) dX0_stuffAt_179 ⟨by decide, by decide⟩ (fun v W1 H locs hp wo => ?_)
    obtain ⟨rfl, rfl⟩ := hp
    refine nrm_i ?_
    exact r2_i cx hQ wo dX0_stuffAt_182 (by subst hM; exact ⟨rfl, rfl⟩)
  rw [if_neg c_12] at hM
  refine lv_tableOut (tgt := 183) hx hb dX0_stuffAt_1 (by have q0 := lv_neT c_1 (a := 0) rfl; have q1 := lv_neT c_2 (a := 1) rfl; have q2 := lv_neT c_3 (a := 2) rfl; have q3 := lv_neT c_4 (a := 3) rfl; have q4 := lv_neT c_5 (a := 4) rfl; have q5 := lv_neT c_7 (a := 5) rfl; have q6 := lv_neT c_8 (a := 6) rfl; have q7 := lv_neT c_9 (a := 7) rfl; have q8 := lv_neT c_10 (a := 8) rfl; have q9 := lv_neT c_11 (a := 9) rfl; have q10 := lv_neT c_12 (a := 10) rfl; omega) (by decide) ?_
  refine lv_iconst (v := (-1)) hx hb dX0_stuffAt_183 (by decide) ?_
  exact r2_i cx hQ wo dX0_stuffAt_184 (by subst hM; exact ⟨rfl, rfl⟩)
abbrev rm_X0_feed : Room := { frames := 1, cells := 0, slots := 0, locals := 22 }
def m_X0_feed (g : St) (k : Int32) (n : Int32) : St :=
  (m_X4_add (m_X4_add g 0 k n) 16 k n)
set_option maxHeartbeats 4000000 in
set_option maxRecDepth 100000 in
theorem c_X0_feed (l : Launch) (G : GG) (ad : Nat → Nat) (g : St) (k : Int32) (n : Int32) : Ct l G yX0_feed cX0_feed 3 (none : Option Jvm.ClassFile.FieldType) rm_X0_feed [.ref (ad 12), .int k, .int n] (aw G ad g) (fun rv W1 => rv = none ∧ W1 = aw G ad (m_X0_feed g k n)) := by
  refine Ct.mk2 (by decide) (Nat.le_of_ble_eq_true rfl) ?_
  intro p e s m args below meth c A H locs ls Q cx wo hl hQ
  obtain ⟨hx, hb, hml, hr, hlo, hown, hts, hnm, kn, hA⟩ := id cx
  have hl : lv_has ls 3 [(0, .ref (ad 12)), (1, .int k), (2, .int n)] := hl
  generalize hM : m_X0_feed g k n = M at hQ
  unfold m_X0_feed at hM
  refine lv_aload_n hx hb dX0_feed_0 rfl (lv_at hl 0 rfl) ?_
  refine gf_aisle_furnace (fun X => X) Fr_id cx wo  m_250 dX0_feed_1 ?_
  refine lv_iload_n hx hb dX0_feed_4 rfl (lv_at hl 1 rfl) ?_
  refine lv_iload_n hx hb dX0_feed_5 rfl (lv_at hl 2 rfl) ?_
  refine call_V (As := [.int k, .int n]) (rest := []) (fun X => X) Fr_id cx (c_X4_add l G ad _ (t := 0) (by omega) (by omega) k n) fx_X4_add m_361 m_362 m_363 ⟨by decide, by decide⟩ wo (at_stuff G _ _ (t := 0) (by omega) (by omega)) rfl rfl rfl hl.1 rfl (Nat.le_of_ble_eq_true rfl) dX0_feed_6 ⟨by decide, by decide⟩ (fun v W1 H locs hp wo => ?_)
  obtain ⟨rfl, rfl⟩ := hp
  refine nrm_v ?_
  refine lv_aload_n hx hb dX0_feed_9 rfl (lv_at hl 0 rfl) ?_
  refine gf_aisle_books (fun X => X) Fr_id cx wo  m_255 dX0_feed_10 ?_
  refine gf_books_cameIn (fun X => X) Fr_id cx wo  m_143 dX0_feed_13 ?_
  refine lv_iload_n hx hb dX0_feed_16 rfl (lv_at hl 1 rfl) ?_
  refine lv_iload_n hx hb dX0_feed_17 rfl (lv_at hl 2 rfl) ?_
  refine call_V (As := [.int k, .int n]) (rest := []) (fun X => X) Fr_id cx (c_X4_add l G ad _ (t := 16) (by omega) (by omega) k n) fx_X4_add m_361 m_362 m_363 ⟨by decide, by decide⟩ wo (at_stuff G _ _ (t := 16) (by omega) (by omega)) rfl rfl rfl hl.1 rfl (Nat.le_of_ble_eq_true rfl) dX0_feed_18 ⟨by decide, by decide⟩ (fun v W1 H locs hp wo => ?_)
  obtain ⟨rfl, rfl⟩ := hp
  refine nrm_v ?_
  exact r2_v cx hQ wo dX0_feed_21 (by subst hM; exact ⟨rfl, rfl⟩)
abbrev rm_X0_feedFurnace : Room := { frames := 2, cells := 0, slots := 0, locals := 44 }
def m_X0_feedFurnace (g : St) : St :=
  if (g 149) = 0 then g
  else if ((((m_X4_all g 0) + 4) + 3) + 2) ≤ 600 then (m_X0_feed (m_X0_feed (m_X0_feed g 1 4) 2 3) 3 2)
  else (upd g 145 ((g 145) + 1))
set_option maxHeartbeats 4000000 in
set_option maxRecDepth 100000 in
theorem c_X0_feedFurnace (l : Launch) (G : GG) (ad : Nat → Nat) (g : St)  : Ct l G yX0_feedFurnace cX0_feedFurnace 1 (none : Option Jvm.ClassFile.FieldType) rm_X0_feedFurnace [.ref (ad 12)] (aw G ad g) (fun rv W1 => rv = none ∧ W1 = aw G ad (m_X0_feedFurnace g)) := by
  refine Ct.mk2 (by decide) (Nat.le_of_ble_eq_true rfl) ?_
  intro p e s m args below meth c A H locs ls Q cx wo hl hQ
  obtain ⟨hx, hb, hml, hr, hlo, hown, hts, hnm, kn, hA⟩ := id cx
  have hl : lv_has ls 1 [(0, .ref (ad 12))] := hl
  generalize hM : m_X0_feedFurnace g = M at hQ
  unfold m_X0_feedFurnace at hM
  refine lv_aload_n hx hb dX0_feedFurnace_0 rfl (lv_at hl 0 rfl) ?_
  refine gf_aisle_isFed (fun X => X) Fr_id cx wo  m_261 dX0_feedFurnace_1 ?_
  refine lv_if_ne (tgt := 8) hx hb dX0_feedFurnace_4 (by decide) (fun c_1 => ?_) (fun c_1 => ?_)
  · skip
    rw [if_neg c_1] at hM
    refine lv_aload_n hx hb dX0_feedFurnace_8 rfl (lv_at hl 0 rfl) ?_
    refine gf_aisle_furnace (fun X => X) Fr_id cx wo  m_250 dX0_feedFurnace_9 ?_
    refine call_V (As := []) (rest := []) (fun X => X) Fr_id cx (c_X4_all l G ad _ (t := 0) (by omega) (by omega)) fx_X4_all m_356 m_316 m_317 ⟨by decide, by decide⟩ wo (at_stuff G _ _ (t := 0) (by omega) (by omega)) rfl rfl rfl hl.1 rfl (Nat.le_of_ble_eq_true rfl) dX0_feedFurnace_12 ⟨by decide, by decide⟩ (fun v W1 H locs hp wo => ?_)
    obtain ⟨rfl, rfl⟩ := hp
    refine nrm_i ?_
    refine lv_iconst (v := 4) hx hb dX0_feedFurnace_15 (by decide) ?_
    refine lv_iadd hx hb dX0_feedFurnace_16 ?_
    refine lv_iconst (v := 3) hx hb dX0_feedFurnace_17 (by decide) ?_
    refine lv_iadd hx hb dX0_feedFurnace_18 ?_
    refine lv_iconst (v := 2) hx hb dX0_feedFurnace_19 (by decide) ?_
    refine lv_iadd hx hb dX0_feedFurnace_20 ?_
    refine lv_sipush (v := 600) hx hb dX0_feedFurnace_21 (by decide) ?_
    refine lv_icmp_le (tgt := 41) hx hb dX0_feedFurnace_24 (by decide) (fun c_2 => ?_) (fun c_2 => ?_)
    · skip
      rw [if_pos c_2] at hM
      refine lv_aload_n hx hb dX0_feedFurnace_41 rfl (lv_at hl 0 rfl) ?_
      refine lv_iconst (v := 1) hx hb dX0_feedFurnace_42 (by decide) ?_
      refine lv_iconst (v := 4) hx hb dX0_feedFurnace_43 (by decide) ?_
      refine call_V (As := [.int 1, .int 4]) (rest := []) (fun X => X) Fr_id cx (c_X0_feed l G ad _ 1 4) fx_X0_feed m_357 m_359 m_1 ⟨by decide, by decide⟩ wo (at_aisle G _ _ ) rfl rfl rfl hl.1 rfl (Nat.le_of_ble_eq_true rfl) dX0_feedFurnace_44 ⟨by decide, by decide⟩ (fun v W1 H locs hp wo => ?_)
      obtain ⟨rfl, rfl⟩ := hp
      refine nrm_v ?_
      refine lv_aload_n hx hb dX0_feedFurnace_47 rfl (lv_at hl 0 rfl) ?_
      refine lv_iconst (v := 2) hx hb dX0_feedFurnace_48 (by decide) ?_
      refine lv_iconst (v := 3) hx hb dX0_feedFurnace_49 (by decide) ?_
      refine call_V (As := [.int 2, .int 3]) (rest := []) (fun X => X) Fr_id cx (c_X0_feed l G ad _ 2 3) fx_X0_feed m_357 m_359 m_1 ⟨by decide, by decide⟩ wo (at_aisle G _ _ ) rfl rfl rfl hl.1 rfl (Nat.le_of_ble_eq_true rfl) dX0_feedFurnace_50 ⟨by decide, by decide⟩ (fun v W1 H locs hp wo => ?_)
      obtain ⟨rfl, rfl⟩ := hp
      refine nrm_v ?_
      refine lv_aload_n hx hb dX0_feedFurnace_53 rfl (lv_at hl 0 rfl) ?_
      refine lv_iconst (v := 3) hx hb dX0_feedFurnace_54 (by decide) ?_
      refine lv_iconst (v := 2) hx hb dX0_feedFurnace_55 (by decide) ?_
      refine call_V (As := [.int 3, .int 2]) (rest := []) (fun X => X) Fr_id cx (c_X0_feed l G ad _ 3 2) fx_X0_feed m_357 m_359 m_1 ⟨by decide, by decide⟩ wo (at_aisle G _ _ ) rfl rfl rfl hl.1 rfl (Nat.le_of_ble_eq_true rfl) dX0_feedFurnace_56 ⟨by decide, by decide⟩ (fun v W1 H locs hp wo => ?_)
      obtain ⟨rfl, rfl⟩ := hp
      refine nrm_v ?_
      exact r2_v cx hQ wo dX0_feedFurnace_59 (by subst hM; exact ⟨rfl, rfl⟩)
    · skip
      rw [if_neg c_2] at hM
      refine lv_aload_n hx hb dX0_feedFurnace_27 rfl (lv_at hl 0 rfl) ?_
      refine gf_aisle_books (fun X => X) Fr_id cx wo  m_255 dX0_feedFurnace_28 ?_
      refine lv_dup hx hb dX0_feedFurnace_31 rfl ?_
      refine gf_books_fullMinutes (fun X => X) Fr_id cx wo  m_158 dX0_feedFurnace_32 ?_
      refine lv_iconst (v := 1) hx hb dX0_feedFurnace_35 (by decide) ?_
      refine lv_iadd hx hb dX0_feedFurnace_36 ?_
      refine pf_books_fullMinutes (fun X => X) Fr_id cx wo  m_158 dX0_feedFurnace_37 (fun H locs gz hgz wo => ?_)
      subst hgz
      exact r2_v cx hQ wo dX0_feedFurnace_40 (by subst hM; exact ⟨rfl, rfl⟩)
  · skip
    rw [if_pos c_1] at hM
    exact r2_v cx hQ wo dX0_feedFurnace_7 (by subst hM; exact ⟨rfl, rfl⟩)
abbrev rm_X0_burn : Room := { frames := 1, cells := 0, slots := 0, locals := 22 }
def m_X0_burn (g : St) (v : Nat) (k : Int32) (n : Int32) : St :=
  (m_X4_add (m_X4_add g (1 + v) k (-n)) 17 k n)
set_option maxHeartbeats 4000000 in
set_option maxRecDepth 100000 in
theorem c_X0_burn (l : Launch) (G : GG) (ad : Nat → Nat) (g : St) {v : Nat} (hv : v < 3) (k : Int32) (n : Int32) : Ct l G yX0_burn cX0_burn 4 (none : Option Jvm.ClassFile.FieldType) rm_X0_burn [.ref (ad 12), .ref (ad (19 + v)), .int k, .int n] (aw G ad g) (fun rv W1 => rv = none ∧ W1 = aw G ad (m_X0_burn g v k n)) := by
  refine Ct.mk2 (by decide) (Nat.le_of_ble_eq_true rfl) ?_
  intro p e s m args below meth c A H locs ls Q cx wo hl hQ
  obtain ⟨hx, hb, hml, hr, hlo, hown, hts, hnm, kn, hA⟩ := id cx
  have hl : lv_has ls 4 [(0, .ref (ad 12)), (1, .ref (ad (19 + v))), (2, .int k), (3, .int n)] := hl
  generalize hM : m_X0_burn g v k n = M at hQ
  unfold m_X0_burn at hM
  refine lv_aload_n hx hb dX0_burn_0 rfl (lv_at hl 1 rfl) ?_
  refine gf_vessel_stuff (v := v) (fun X => X) Fr_id cx wo (by omega) m_198 dX0_burn_1 ?_
  refine topv (y := .ref (ad (1 + v))) (congrArg (fun z => Value.ref (ad z)) (by omega)) ?_
  refine lv_iload_n hx hb dX0_burn_4 rfl (lv_at hl 2 rfl) ?_
  refine lv_iload_n hx hb dX0_burn_5 rfl (lv_at hl 3 rfl) ?_
  refine lv_ineg hx hb dX0_burn_6 ?_
  refine call_V (As := [.int k, .int (-n)]) (rest := []) (fun X => X) Fr_id cx (c_X4_add l G ad _ (t := 1 + v) (by omega) (by omega) k (-n)) fx_X4_add m_361 m_362 m_363 ⟨by decide, by decide⟩ wo (at_stuff G _ _ (t := 1 + v) (by omega) (by omega)) rfl rfl rfl hl.1 rfl (Nat.le_of_ble_eq_true rfl) dX0_burn_7 ⟨by decide, by decide⟩ (fun v W1 H locs hp wo => ?_)
  obtain ⟨rfl, rfl⟩ := hp
  refine nrm_v ?_
  refine lv_aload_n hx hb dX0_burn_10 rfl (lv_at hl 0 rfl) ?_
  refine gf_aisle_books (fun X => X) Fr_id cx wo  m_255 dX0_burn_11 ?_
  refine gf_books_becameOther (fun X => X) Fr_id cx wo  m_145 dX0_burn_14 ?_
  refine lv_iload_n hx hb dX0_burn_17 rfl (lv_at hl 2 rfl) ?_
  refine lv_iload_n hx hb dX0_burn_18 rfl (lv_at hl 3 rfl) ?_
  refine call_V (As := [.int k, .int n]) (rest := []) (fun X => X) Fr_id cx (c_X4_add l G ad _ (t := 17) (by omega) (by omega) k n) fx_X4_add m_361 m_362 m_363 ⟨by decide, by decide⟩ wo (at_stuff G _ _ (t := 17) (by omega) (by omega)) rfl rfl rfl hl.1 rfl (Nat.le_of_ble_eq_true rfl) dX0_burn_19 ⟨by decide, by decide⟩ (fun v W1 H locs hp wo => ?_)
  obtain ⟨rfl, rfl⟩ := hp
  refine nrm_v ?_
  exact r2_v cx hQ wo dX0_burn_22 (by subst hM; exact ⟨rfl, rfl⟩)
abbrev rm_X0_blowParts : Room := { frames := 2, cells := 0, slots := 0, locals := 45 }
def m_X0_blowParts (g : St) (v : Nat) : St :=
  if (m_X5_isTooColdOrTooHot g v) = true then (upd (upd g (79 + v) 0) (85 + v) ((g (85 + v)) + 1))
  else if ((g 142) + (mn (6 - (mn 6 (g (5 + 4 * v)))) (g (6 + 4 * v)))) ≤ (g 148) then (upd (upd (m_X0_burn (m_X0_burn (m_X0_burn (upd (upd g 142 ((g 142) + (mn (6 - (mn 6 (g (5 + 4 * v)))) (g (6 + 4 * v))))) (76 + v) ((g (76 + v)) + (((4 * (mn 6 (g (5 + 4 * v)))) + (3 * (mn (6 - (mn 6 (g (5 + 4 * v)))) (g (6 + 4 * v))))) + (2 * (mn ((6 - (mn 6 (g (5 + 4 * v)))) - (mn (6 - (mn 6 (g (5 + 4 * v)))) (g (6 + 4 * v)))) (g (4 + 4 * v))))))) v 2 (mn 6 (g (5 + 4 * v)))) v 3 (mn (6 - (mn 6 (g (5 + 4 * v)))) (g (6 + 4 * v)))) v 1 (mn ((6 - (mn 6 (g (5 + 4 * v)))) - (mn (6 - (mn 6 (g (5 + 4 * v)))) (g (6 + 4 * v)))) (g (4 + 4 * v)))) (7 + 4 * v) (((m_X0_burn (m_X0_burn (m_X0_burn (upd (upd g 142 ((g 142) + (mn (6 - (mn 6 (g (5 + 4 * v)))) (g (6 + 4 * v))))) (76 + v) ((g (76 + v)) + (((4 * (mn 6 (g (5 + 4 * v)))) + (3 * (mn (6 - (mn 6 (g (5 + 4 * v)))) (g (6 + 4 * v))))) + (2 * (mn ((6 - (mn 6 (g (5 + 4 * v)))) - (mn (6 - (mn 6 (g (5 + 4 * v)))) (g (6 + 4 * v)))) (g (4 + 4 * v))))))) v 2 (mn 6 (g (5 + 4 * v)))) v 3 (mn (6 - (mn 6 (g (5 + 4 * v)))) (g (6 + 4 * v)))) v 1 (mn ((6 - (mn 6 (g (5 + 4 * v)))) - (mn (6 - (mn 6 (g (5 + 4 * v)))) (g (6 + 4 * v)))) (g (4 + 4 * v)))) (7 + 4 * v)) + ((mn 6 (g (5 + 4 * v))) + (mn ((6 - (mn 6 (g (5 + 4 * v)))) - (mn (6 - (mn 6 (g (5 + 4 * v)))) (g (6 + 4 * v)))) (g (4 + 4 * v)))))) 75 (((m_X0_burn (m_X0_burn (m_X0_burn (upd (upd g 142 ((g 142) + (mn (6 - (mn 6 (g (5 + 4 * v)))) (g (6 + 4 * v))))) (76 + v) ((g (76 + v)) + (((4 * (mn 6 (g (5 + 4 * v)))) + (3 * (mn (6 - (mn 6 (g (5 + 4 * v)))) (g (6 + 4 * v))))) + (2 * (mn ((6 - (mn 6 (g (5 + 4 * v)))) - (mn (6 - (mn 6 (g (5 + 4 * v)))) (g (6 + 4 * v)))) (g (4 + 4 * v))))))) v 2 (mn 6 (g (5 + 4 * v)))) v 3 (mn (6 - (mn 6 (g (5 + 4 * v)))) (g (6 + 4 * v)))) v 1 (mn ((6 - (mn 6 (g (5 + 4 * v)))) - (mn (6 - (mn 6 (g (5 + 4 * v)))) (g (6 + 4 * v)))) (g (4 + 4 * v)))) 75) + ((mn 6 (g (5 + 4 * v))) + (mn ((6 - (mn 6 (g (5 + 4 * v)))) - (mn (6 - (mn 6 (g (5 + 4 * v)))) (g (6 + 4 * v)))) (g (4 + 4 * v))))))
  else (upd g (82 + v) ((g (82 + v)) + 1))
set_option maxHeartbeats 4000000 in
set_option maxRecDepth 100000 in
theorem c_X0_blowParts (l : Launch) (G : GG) (ad : Nat → Nat) (g : St) {v : Nat} (hv : v < 3) : Ct l G yX0_blowParts cX0_blowParts 5 (none : Option Jvm.ClassFile.FieldType) rm_X0_blowParts [.ref (ad 12), .ref (ad (19 + v))] (aw G ad g) (fun rv W1 => rv = none ∧ W1 = aw G ad (m_X0_blowParts g v)) := by
  refine Ct.mk2 (by decide) (Nat.le_of_ble_eq_true rfl) ?_
  intro p e s m args below meth c A H locs ls Q cx wo hl hQ
  obtain ⟨hx, hb, hml, hr, hlo, hown, hts, hnm, kn, hA⟩ := id cx
  have hl : lv_has ls 5 [(0, .ref (ad 12)), (1, .ref (ad (19 + v)))] := hl
  generalize hM : m_X0_blowParts g v = M at hQ
  unfold m_X0_blowParts at hM
  refine lv_aload_n hx hb dX0_blowParts_0 rfl (lv_at hl 1 rfl) ?_
  refine call_V (As := []) (rest := []) (fun X => X) Fr_id cx (c_X5_isTooColdOrTooHot l G ad _ (v := v) (by omega)) fx_X5_isTooColdOrTooHot m_373 m_374 m_375 ⟨by decide, by decide⟩ wo (at_vessel G _ _ (v := v) (by omega)) rfl rfl rfl hl.1 rfl (Nat.le_of_ble_eq_true rfl) dX0_blowParts_1 ⟨by decide, by decide⟩ (fun v W1 H locs hp wo => ?_)
  obtain ⟨rfl, rfl⟩ := hp
  refine nrm_i ?_
  refine if_eq_b (tgt := 23) hx hb dX0_blowParts_4 (by decide) (fun c_1 => ?_) (fun c_1 => ?_)
  · skip
    rw [if_neg c_1] at hM
    refine lv_bipush (v := 6) hx hb dX0_blowParts_23 (by decide) ?_
    refine lv_aload_n hx hb dX0_blowParts_25 rfl (lv_at hl 1 rfl) ?_
    refine gf_vessel_stuff (v := v) (fun X => X) Fr_id cx wo (by omega) m_198 dX0_blowParts_26 ?_
    refine topv (y := .ref (ad (1 + v))) (congrArg (fun z => Value.ref (ad z)) (by omega)) ?_
    refine gfi_stuff_iron (t := 1 + v) (i := 5 + 4 * v) (fun X => X) Fr_id cx wo (by omega) (by omega) (by omega) m_73 dX0_blowParts_29 ?_
    refine min_r cx m_378 dX0_blowParts_32 hl.1 (by decide) (Nat.le_of_ble_eq_true rfl) (by decide) (by decide) ?_
    refine lv_istore_n (lv' := [(2, .int (mn 6 (g (5 + 4 * v)))), (0, .ref (ad 12)), (1, .ref (ad (19 + v)))]) hx hb dX0_blowParts_35 rfl hl (by decide) rfl (fun ls hl => ?_)
    refine lv_bipush (v := 6) hx hb dX0_blowParts_36 (by decide) ?_
    refine lv_iload_n hx hb dX0_blowParts_38 rfl (lv_at hl 0 rfl) ?_
    refine lv_isub hx hb dX0_blowParts_39 ?_
    refine lv_aload_n hx hb dX0_blowParts_40 rfl (lv_at hl 2 rfl) ?_
    refine gf_vessel_stuff (v := v) (fun X => X) Fr_id cx wo (by omega) m_198 dX0_blowParts_41 ?_
    refine topv (y := .ref (ad (1 + v))) (congrArg (fun z => Value.ref (ad z)) (by omega)) ?_
    refine gfi_stuff_sulphur (t := 1 + v) (i := 6 + 4 * v) (fun X => X) Fr_id cx wo (by omega) (by omega) (by omega) m_76 dX0_blowParts_44 ?_
    refine min_r cx m_378 dX0_blowParts_47 hl.1 (by decide) (Nat.le_of_ble_eq_true rfl) (by decide) (by decide) ?_
    refine lv_istore_n (lv' := [(3, .int (mn (6 - (mn 6 (g (5 + 4 * v)))) (g (6 + 4 * v)))), (2, .int (mn 6 (g (5 + 4 * v)))), (0, .ref (ad 12)), (1, .ref (ad (19 + v)))]) hx hb dX0_blowParts_50 rfl hl (by decide) rfl (fun ls hl => ?_)
    refine lv_bipush (v := 6) hx hb dX0_blowParts_51 (by decide) ?_
    refine lv_iload_n hx hb dX0_blowParts_53 rfl (lv_at hl 1 rfl) ?_
    refine lv_isub hx hb dX0_blowParts_54 ?_
    refine lv_iload_n hx hb dX0_blowParts_55 rfl (lv_at hl 0 rfl) ?_
    refine lv_isub hx hb dX0_blowParts_56 ?_
    refine lv_aload_n hx hb dX0_blowParts_57 rfl (lv_at hl 3 rfl) ?_
    refine gf_vessel_stuff (v := v) (fun X => X) Fr_id cx wo (by omega) m_198 dX0_blowParts_58 ?_
    refine topv (y := .ref (ad (1 + v))) (congrArg (fun z => Value.ref (ad z)) (by omega)) ?_
    refine gfi_stuff_copper (t := 1 + v) (i := 4 + 4 * v) (fun X => X) Fr_id cx wo (by omega) (by omega) (by omega) m_71 dX0_blowParts_61 ?_
    refine min_r cx m_378 dX0_blowParts_64 hl.1 (by decide) (Nat.le_of_ble_eq_true rfl) (by decide) (by decide) ?_
    refine lv_istore (lv' := [(4, .int (mn ((6 - (mn 6 (g (5 + 4 * v)))) - (mn (6 - (mn 6 (g (5 + 4 * v)))) (g (6 + 4 * v)))) (g (4 + 4 * v)))), (3, .int (mn (6 - (mn 6 (g (5 + 4 * v)))) (g (6 + 4 * v)))), (2, .int (mn 6 (g (5 + 4 * v)))), (0, .ref (ad 12)), (1, .ref (ad (19 + v)))]) hx hb dX0_blowParts_67 hl (by decide) rfl (fun ls hl => ?_)
    refine lv_aload_n hx hb dX0_blowParts_69 rfl (lv_at hl 3 rfl) ?_
    refine gf_aisle_books (fun X => X) Fr_id cx wo  m_255 dX0_blowParts_70 ?_
    refine gf_books_gasOfMinute (fun X => X) Fr_id cx wo  m_152 dX0_blowParts_73 ?_
    refine lv_iload_n hx hb dX0_blowParts_76 rfl (lv_at hl 1 rfl) ?_
    refine lv_iadd hx hb dX0_blowParts_77 ?_
    refine lv_aload_n hx hb dX0_blowParts_78 rfl (lv_at hl 3 rfl) ?_
    refine gf_aisle_gasLimit (fun X => X) Fr_id cx wo  m_258 dX0_blowParts_79 ?_
    refine lv_icmp_le (tgt := 96) hx hb dX0_blowParts_82 (by decide) (fun c_2 => ?_) (fun c_2 => ?_)
    · skip
      rw [if_pos c_2] at hM
      refine lv_aload_n hx hb dX0_blowParts_96 rfl (lv_at hl 3 rfl) ?_
      refine gf_aisle_books (fun X => X) Fr_id cx wo  m_255 dX0_blowParts_97 ?_
      refine lv_dup hx hb dX0_blowParts_100 rfl ?_
      refine gf_books_gasOfMinute (fun X => X) Fr_id cx wo  m_152 dX0_blowParts_101 ?_
      refine lv_iload_n hx hb dX0_blowParts_104 rfl (lv_at hl 1 rfl) ?_
      refine lv_iadd hx hb dX0_blowParts_105 ?_
      refine pf_books_gasOfMinute (fun X => X) Fr_id cx wo  m_152 dX0_blowParts_106 (fun H locs gz hgz wo => ?_)
      subst hgz
      refine lv_aload_n hx hb dX0_blowParts_109 rfl (lv_at hl 4 rfl) ?_
      refine lv_dup hx hb dX0_blowParts_110 rfl ?_
      refine gf_vessel_heat (v := v) (fun X => X) Fr_id cx wo (by omega) m_201 dX0_blowParts_111 ?_
      refine tope (y := (g (76 + v))) (show (upd g 142 ((g 142) + (mn (6 - (mn 6 (g (5 + 4 * v)))) (g (6 + 4 * v))))) (76 + v) = (g (76 + v)) from (rdN (by omega) rfl)) ?_
      refine lv_iconst (v := 4) hx hb dX0_blowParts_114 (by decide) ?_
      refine lv_iload_n hx hb dX0_blowParts_115 rfl (lv_at hl 2 rfl) ?_
      refine lv_imul hx hb dX0_blowParts_116 ?_
      refine lv_iconst (v := 3) hx hb dX0_blowParts_117 (by decide) ?_
      refine lv_iload_n hx hb dX0_blowParts_118 rfl (lv_at hl 1 rfl) ?_
      refine lv_imul hx hb dX0_blowParts_119 ?_
      refine lv_iadd hx hb dX0_blowParts_120 ?_
      refine lv_iconst (v := 2) hx hb dX0_blowParts_121 (by decide) ?_
      refine lv_iload hx hb dX0_blowParts_122 (lv_at hl 0 rfl) ?_
      refine lv_imul hx hb dX0_blowParts_124 ?_
      refine lv_iadd hx hb dX0_blowParts_125 ?_
      refine lv_iadd hx hb dX0_blowParts_126 ?_
      refine pf_vessel_heat (v := v) (fun X => X) Fr_id cx wo (by omega) m_201 dX0_blowParts_127 (fun H locs gz hgz wo => ?_)
      subst hgz
      refine lv_aload_n hx hb dX0_blowParts_130 rfl (lv_at hl 3 rfl) ?_
      refine lv_aload_n hx hb dX0_blowParts_131 rfl (lv_at hl 4 rfl) ?_
      refine lv_iconst (v := 2) hx hb dX0_blowParts_132 (by decide) ?_
      refine lv_iload_n hx hb dX0_blowParts_133 rfl (lv_at hl 2 rfl) ?_
      refine call_V (As := [.ref (ad (19 + v)), .int 2, .int (mn 6 (g (5 + 4 * v)))]) (rest := []) (fun X => X) Fr_id cx (c_X0_burn l G ad _ (v := v) (by omega) 2 (mn 6 (g (5 + 4 * v)))) fx_X0_burn m_381 m_383 m_4 ⟨by decide, by decide⟩ wo (at_aisle G _ _ ) rfl rfl rfl hl.1 rfl (Nat.le_of_ble_eq_true rfl) dX0_blowParts_134 ⟨by decide, by decide⟩ (fun v W1 H locs hp wo => ?_)
      obtain ⟨rfl, rfl⟩ := hp
      refine nrm_v ?_
      refine lv_aload_n hx hb dX0_blowParts_137 rfl (lv_at hl 3 rfl) ?_
      refine lv_aload_n hx hb dX0_blowParts_138 rfl (lv_at hl 4 rfl) ?_
      refine lv_iconst (v := 3) hx hb dX0_blowParts_139 (by decide) ?_
      refine lv_iload_n hx hb dX0_blowParts_140 rfl (lv_at hl 1 rfl) ?_
      refine call_V (As := [.ref (ad (19 + v)), .int 3, .int (mn (6 - (mn 6 (g (5 + 4 * v)))) (g (6 + 4 * v)))]) (rest := []) (fun X => X) Fr_id cx (c_X0_burn l G ad _ (v := v) (by omega) 3 (mn (6 - (mn 6 (g (5 + 4 * v)))) (g (6 + 4 * v)))) fx_X0_burn m_381 m_383 m_4 ⟨by decide, by decide⟩ wo (at_aisle G _ _ ) rfl rfl rfl hl.1 rfl (Nat.le_of_ble_eq_true rfl) dX0_blowParts_141 ⟨by decide, by decide⟩ (fun v W1 H locs hp wo => ?_)
      obtain ⟨rfl, rfl⟩ := hp
      refine nrm_v ?_
      refine lv_aload_n hx hb dX0_blowParts_144 rfl (lv_at hl 3 rfl) ?_
      refine lv_aload_n hx hb dX0_blowParts_145 rfl (lv_at hl 4 rfl) ?_
      refine lv_iconst (v := 1) hx hb dX0_blowParts_146 (by decide) ?_
      refine lv_iload hx hb dX0_blowParts_147 (lv_at hl 0 rfl) ?_
      refine call_V (As := [.ref (ad (19 + v)), .int 1, .int (mn ((6 - (mn 6 (g (5 + 4 * v)))) - (mn (6 - (mn 6 (g (5 + 4 * v)))) (g (6 + 4 * v)))) (g (4 + 4 * v)))]) (rest := []) (fun X => X) Fr_id cx (c_X0_burn l G ad _ (v := v) (by omega) 1 (mn ((6 - (mn 6 (g (5 + 4 * v)))) - (mn (6 - (mn 6 (g (5 + 4 * v)))) (g (6 + 4 * v)))) (g (4 + 4 * v)))) fx_X0_burn m_381 m_383 m_4 ⟨by decide, by decide⟩ wo (at_aisle G _ _ ) rfl rfl rfl hl.1 rfl (Nat.le_of_ble_eq_true rfl) dX0_blowParts_149 ⟨by decide, by decide⟩ (fun v W1 H locs hp wo => ?_)
      obtain ⟨rfl, rfl⟩ := hp
      refine nrm_v ?_
      refine lv_aload_n hx hb dX0_blowParts_152 rfl (lv_at hl 4 rfl) ?_
      refine gf_vessel_stuff (v := v) (fun X => X) Fr_id cx wo (by omega) m_198 dX0_blowParts_153 ?_
      refine topv (y := .ref (ad (1 + v))) (congrArg (fun z => Value.ref (ad z)) (by omega)) ?_
      refine lv_dup hx hb dX0_blowParts_156 rfl ?_
      refine gfi_stuff_slag (t := 1 + v) (i := 7 + 4 * v) (fun X => X) Fr_id cx wo (by omega) (by omega) (by omega) m_78 dX0_blowParts_157 ?_
      refine lv_iload_n hx hb dX0_blowParts_160 rfl (lv_at hl 2 rfl) ?_
      refine lv_iload hx hb dX0_blowParts_161 (lv_at hl 0 rfl) ?_
      refine lv_iadd hx hb dX0_blowParts_163 ?_
      refine lv_iadd hx hb dX0_blowParts_164 ?_
      refine pfi_stuff_slag (t := 1 + v) (i := 7 + 4 * v) (fun X => X) Fr_id cx wo (by omega) (by omega) (by omega) m_78 dX0_blowParts_165 (fun H locs gz hgz wo => ?_)
      subst hgz
      refine lv_aload_n hx hb dX0_blowParts_168 rfl (lv_at hl 3 rfl) ?_
      refine gf_aisle_books (fun X => X) Fr_id cx wo  m_255 dX0_blowParts_169 ?_
      refine gf_books_cameOfOthers (fun X => X) Fr_id cx wo  m_147 dX0_blowParts_172 ?_
      refine lv_dup hx hb dX0_blowParts_175 rfl ?_
      refine gfi_stuff_slag (t := 18) (i := 75) (fun X => X) Fr_id cx wo (by omega) (by omega) (by omega) m_78 dX0_blowParts_176 ?_
      refine tope (y := ((m_X0_burn (m_X0_burn (m_X0_burn (upd (upd g 142 ((g 142) + (mn (6 - (mn 6 (g (5 + 4 * v)))) (g (6 + 4 * v))))) (76 + v) ((g (76 + v)) + (((4 * (mn 6 (g (5 + 4 * v)))) + (3 * (mn (6 - (mn 6 (g (5 + 4 * v)))) (g (6 + 4 * v))))) + (2 * (mn ((6 - (mn 6 (g (5 + 4 * v)))) - (mn (6 - (mn 6 (g (5 + 4 * v)))) (g (6 + 4 * v)))) (g (4 + 4 * v))))))) v 2 (mn 6 (g (5 + 4 * v)))) v 3 (mn (6 - (mn 6 (g (5 + 4 * v)))) (g (6 + 4 * v)))) v 1 (mn ((6 - (mn 6 (g (5 + 4 * v)))) - (mn (6 - (mn 6 (g (5 + 4 * v)))) (g (6 + 4 * v)))) (g (4 + 4 * v)))) 75)) (show (upd (m_X0_burn (m_X0_burn (m_X0_burn (upd (upd g 142 ((g 142) + (mn (6 - (mn 6 (g (5 + 4 * v)))) (g (6 + 4 * v))))) (76 + v) ((g (76 + v)) + (((4 * (mn 6 (g (5 + 4 * v)))) + (3 * (mn (6 - (mn 6 (g (5 + 4 * v)))) (g (6 + 4 * v))))) + (2 * (mn ((6 - (mn 6 (g (5 + 4 * v)))) - (mn (6 - (mn 6 (g (5 + 4 * v)))) (g (6 + 4 * v)))) (g (4 + 4 * v))))))) v 2 (mn 6 (g (5 + 4 * v)))) v 3 (mn (6 - (mn 6 (g (5 + 4 * v)))) (g (6 + 4 * v)))) v 1 (mn ((6 - (mn 6 (g (5 + 4 * v)))) - (mn (6 - (mn 6 (g (5 + 4 * v)))) (g (6 + 4 * v)))) (g (4 + 4 * v)))) (7 + 4 * v) (((m_X0_burn (m_X0_burn (m_X0_burn (upd (upd g 142 ((g 142) + (mn (6 - (mn 6 (g (5 + 4 * v)))) (g (6 + 4 * v))))) (76 + v) ((g (76 + v)) + (((4 * (mn 6 (g (5 + 4 * v)))) + (3 * (mn (6 - (mn 6 (g (5 + 4 * v)))) (g (6 + 4 * v))))) + (2 * (mn ((6 - (mn 6 (g (5 + 4 * v)))) - (mn (6 - (mn 6 (g (5 + 4 * v)))) (g (6 + 4 * v)))) (g (4 + 4 * v))))))) v 2 (mn 6 (g (5 + 4 * v)))) v 3 (mn (6 - (mn 6 (g (5 + 4 * v)))) (g (6 + 4 * v)))) v 1 (mn ((6 - (mn 6 (g (5 + 4 * v)))) - (mn (6 - (mn 6 (g (5 + 4 * v)))) (g (6 + 4 * v)))) (g (4 + 4 * v)))) (7 + 4 * v)) + ((mn 6 (g (5 + 4 * v))) + (mn ((6 - (mn 6 (g (5 + 4 * v)))) - (mn (6 - (mn 6 (g (5 + 4 * v)))) (g (6 + 4 * v)))) (g (4 + 4 * v)))))) 75 = ((m_X0_burn (m_X0_burn (m_X0_burn (upd (upd g 142 ((g 142) + (mn (6 - (mn 6 (g (5 + 4 * v)))) (g (6 + 4 * v))))) (76 + v) ((g (76 + v)) + (((4 * (mn 6 (g (5 + 4 * v)))) + (3 * (mn (6 - (mn 6 (g (5 + 4 * v)))) (g (6 + 4 * v))))) + (2 * (mn ((6 - (mn 6 (g (5 + 4 * v)))) - (mn (6 - (mn 6 (g (5 + 4 * v)))) (g (6 + 4 * v)))) (g (4 + 4 * v))))))) v 2 (mn 6 (g (5 + 4 * v)))) v 3 (mn (6 - (mn 6 (g (5 + 4 * v)))) (g (6 + 4 * v)))) v 1 (mn ((6 - (mn 6 (g (5 + 4 * v)))) - (mn (6 - (mn 6 (g (5 + 4 * v)))) (g (6 + 4 * v)))) (g (4 + 4 * v)))) 75) from (rdN (by omega) rfl)) ?_
      refine lv_iload_n hx hb dX0_blowParts_179 rfl (lv_at hl 2 rfl) ?_
      refine lv_iload hx hb dX0_blowParts_180 (lv_at hl 0 rfl) ?_
      refine lv_iadd hx hb dX0_blowParts_182 ?_
      refine lv_iadd hx hb dX0_blowParts_183 ?_
      refine pfi_stuff_slag (t := 18) (i := 75) (fun X => X) Fr_id cx wo (by omega) (by omega) (by omega) m_78 dX0_blowParts_184 (fun H locs gz hgz wo => ?_)
      subst hgz
      exact r2_v cx hQ wo dX0_blowParts_187 (by subst hM; exact ⟨rfl, rfl⟩)
    · skip
      rw [if_neg c_2] at hM
      refine lv_aload_n hx hb dX0_blowParts_85 rfl (lv_at hl 4 rfl) ?_
      refine lv_dup hx hb dX0_blowParts_86 rfl ?_
      refine gf_vessel_held (v := v) (fun X => X) Fr_id cx wo (by omega) m_203 dX0_blowParts_87 ?_
      refine lv_iconst (v := 1) hx hb dX0_blowParts_90 (by decide) ?_
      refine lv_iadd hx hb dX0_blowParts_91 ?_
      refine pf_vessel_held (v := v) (fun X => X) Fr_id cx wo (by omega) m_203 dX0_blowParts_92 (fun H locs gz hgz wo => ?_)
      subst hgz
      exact r2_v cx hQ wo dX0_blowParts_95 (by subst hM; exact ⟨rfl, rfl⟩)
  · skip
    rw [if_pos c_1] at hM
    refine lv_aload_n hx hb dX0_blowParts_7 rfl (lv_at hl 1 rfl) ?_
    refine lv_iconst (v := 0) hx hb dX0_blowParts_8 (by decide) ?_
    refine pf_vessel_isBlown (v := v) (fun X => X) Fr_id cx wo (by omega) m_208 rfl rfl dX0_blowParts_9 (fun H locs gz hgz wo => ?_)
    subst hgz
    refine lv_aload_n hx hb dX0_blowParts_12 rfl (lv_at hl 1 rfl) ?_
    refine lv_dup hx hb dX0_blowParts_13 rfl ?_
    refine gf_vessel_stopped (v := v) (fun X => X) Fr_id cx wo (by omega) m_205 dX0_blowParts_14 ?_
    refine tope (y := (g (85 + v))) (show (upd g (79 + v) 0) (85 + v) = (g (85 + v)) from (rdN (by omega) rfl)) ?_
    refine lv_iconst (v := 1) hx hb dX0_blowParts_17 (by decide) ?_
    refine lv_iadd hx hb dX0_blowParts_18 ?_
    refine pf_vessel_stopped (v := v) (fun X => X) Fr_id cx wo (by omega) m_205 dX0_blowParts_19 (fun H locs gz hgz wo => ?_)
    subst hgz
    exact r2_v cx hQ wo dX0_blowParts_22 (by subst hM; exact ⟨rfl, rfl⟩)
abbrev rm_X0_castAnode : Room := { frames := 0, cells := 0, slots := 0, locals := 0 }
def m_X0_castAnode (g : St) : St :=
  if (g 48) < 5 then (upd g 144 ((g 144) + 1))
  else (upd (upd g 48 ((g 48) - 5)) 143 ((g 143) + 1))
set_option maxHeartbeats 4000000 in
set_option maxRecDepth 100000 in
theorem c_X0_castAnode (l : Launch) (G : GG) (ad : Nat → Nat) (g : St)  : Ct l G yX0_castAnode cX0_castAnode 1 (none : Option Jvm.ClassFile.FieldType) rm_X0_castAnode [.ref (ad 12)] (aw G ad g) (fun rv W1 => rv = none ∧ W1 = aw G ad (m_X0_castAnode g)) := by
  refine Ct.mk2 (by decide) (Nat.le_of_ble_eq_true rfl) ?_
  intro p e s m args below meth c A H locs ls Q cx wo hl hQ
  obtain ⟨hx, hb, hml, hr, hlo, hown, hts, hnm, kn, hA⟩ := id cx
  have hl : lv_has ls 1 [(0, .ref (ad 12))] := hl
  generalize hM : m_X0_castAnode g = M at hQ
  unfold m_X0_castAnode at hM
  refine lv_aload_n hx hb dX0_castAnode_0 rfl (lv_at hl 0 rfl) ?_
  refine gf_aisle_wheelCopper (fun X => X) Fr_id cx wo  m_257 dX0_castAnode_1 ?_
  refine lv_iconst (v := 5) hx hb dX0_castAnode_4 (by decide) ?_
  refine lv_icmp_lt (tgt := 34) hx hb dX0_castAnode_5 (by decide) (fun c_1 => ?_) (fun c_1 => ?_)
  · skip
    rw [if_pos c_1] at hM
    refine lv_aload_n hx hb dX0_castAnode_34 rfl (lv_at hl 0 rfl) ?_
    refine gf_aisle_books (fun X => X) Fr_id cx wo  m_255 dX0_castAnode_35 ?_
    refine lv_dup hx hb dX0_castAnode_38 rfl ?_
    refine gf_books_starved (fun X => X) Fr_id cx wo  m_156 dX0_castAnode_39 ?_
    refine lv_iconst (v := 1) hx hb dX0_castAnode_42 (by decide) ?_
    refine lv_iadd hx hb dX0_castAnode_43 ?_
    refine pf_books_starved (fun X => X) Fr_id cx wo  m_156 dX0_castAnode_44 (fun H locs gz hgz wo => ?_)
    subst hgz
    exact r2_v cx hQ wo dX0_castAnode_47 (by subst hM; exact ⟨rfl, rfl⟩)
  · skip
    rw [if_neg c_1] at hM
    refine lv_aload_n hx hb dX0_castAnode_8 rfl (lv_at hl 0 rfl) ?_
    refine lv_dup hx hb dX0_castAnode_9 rfl ?_
    refine gf_aisle_wheelCopper (fun X => X) Fr_id cx wo  m_257 dX0_castAnode_10 ?_
    refine lv_iconst (v := 5) hx hb dX0_castAnode_13 (by decide) ?_
    refine lv_isub hx hb dX0_castAnode_14 ?_
    refine pf_aisle_wheelCopper (fun X => X) Fr_id cx wo  m_257 dX0_castAnode_15 (fun H locs gz hgz wo => ?_)
    subst hgz
    refine lv_aload_n hx hb dX0_castAnode_18 rfl (lv_at hl 0 rfl) ?_
    refine gf_aisle_books (fun X => X) Fr_id cx wo  m_255 dX0_castAnode_19 ?_
    refine lv_dup hx hb dX0_castAnode_22 rfl ?_
    refine gf_books_anodes (fun X => X) Fr_id cx wo  m_154 dX0_castAnode_23 ?_
    refine tope (y := (g 143)) (show (upd g 48 ((g 48) - 5)) 143 = (g 143) from (rdN (by omega) rfl)) ?_
    refine lv_iconst (v := 1) hx hb dX0_castAnode_26 (by decide) ?_
    refine lv_iadd hx hb dX0_castAnode_27 ?_
    refine pf_books_anodes (fun X => X) Fr_id cx wo  m_154 dX0_castAnode_28 (fun H locs gz hgz wo => ?_)
    subst hgz
    refine lv_goto (tgt := 47) hx hb dX0_castAnode_31 (by decide) ?_
    exact r2_v cx hQ wo dX0_castAnode_47 (by subst hM; exact ⟨rfl, rfl⟩)
abbrev rm_X0_finishFirst : Room := { frames := 2, cells := 0, slots := 0, locals := 42 }
def m_X0_finishFirst (g : St) (r : Nat) : St :=
  (upd (m_X2_removeFirst g r) 146 (((m_X2_removeFirst g r) 146) + 1))
set_option maxHeartbeats 4000000 in
set_option maxRecDepth 100000 in
theorem c_X0_finishFirst (l : Launch) (G : GG) (ad : Nat → Nat) (g : St) {r : Nat} (hr : r < 2) : Ct l G yX0_finishFirst cX0_finishFirst 2 (none : Option Jvm.ClassFile.FieldType) rm_X0_finishFirst [.ref (ad 12), .ref (ad (26 + r))] (aw G ad g) (fun rv W1 => rv = none ∧ W1 = aw G ad (m_X0_finishFirst g r)) := by
  refine Ct.mk2 (by decide) (Nat.le_of_ble_eq_true rfl) ?_
  intro p e s m args below meth c A H locs ls Q cx wo hl hQ
  obtain ⟨hx, hb, hml, hr, hlo, hown, hts, hnm, kn, hA⟩ := id cx
  have hl : lv_has ls 2 [(0, .ref (ad 12)), (1, .ref (ad (26 + r)))] := hl
  generalize hM : m_X0_finishFirst g r = M at hQ
  unfold m_X0_finishFirst at hM
  refine lv_aload_n hx hb dX0_finishFirst_0 rfl (lv_at hl 1 rfl) ?_
  refine call_V (As := []) (rest := []) (fun X => X) Fr_id cx (c_X2_removeFirst l G ad _ (r := r) (by omega)) fx_X2_removeFirst m_412 m_413 m_414 ⟨by decide, by decide⟩ wo (at_crane G _ _ (r := r) (by omega)) rfl rfl rfl hl.1 rfl (Nat.le_of_ble_eq_true rfl) dX0_finishFirst_1 ⟨by decide, by decide⟩ (fun v W1 H locs hp wo => ?_)
  obtain ⟨rfl, rfl⟩ := hp
  refine nrm_v ?_
  refine lv_aload_n hx hb dX0_finishFirst_4 rfl (lv_at hl 0 rfl) ?_
  refine gf_aisle_books (fun X => X) Fr_id cx wo  m_255 dX0_finishFirst_5 ?_
  refine lv_dup hx hb dX0_finishFirst_8 rfl ?_
  refine gf_books_ordersDone (fun X => X) Fr_id cx wo  m_161 dX0_finishFirst_9 ?_
  refine lv_iconst (v := 1) hx hb dX0_finishFirst_12 (by decide) ?_
  refine lv_iadd hx hb dX0_finishFirst_13 ?_
  refine pf_books_ordersDone (fun X => X) Fr_id cx wo  m_161 dX0_finishFirst_14 (fun H locs gz hgz wo => ?_)
  subst hgz
  exact r2_v cx hQ wo dX0_finishFirst_17 (by subst hM; exact ⟨rfl, rfl⟩)
abbrev rm_X0_stepOrWait : Room := { frames := 2, cells := 0, slots := 0, locals := 43 }
def m_X0_stepOrWait (g : St) (r : Nat) (r2 : Nat) : St :=
  if (m_X2_nextPlace g r) = (g (100 + r2)) then (upd g (106 + r) ((g (106 + r)) + 1))
  else if (m_X0_ladleNumbered (upd g (100 + r) (m_X2_nextPlace g r)) (m_X0_numberOfLadleOn (upd g (100 + r) (m_X2_nextPlace g r)) r)).isSome = true then (upd (upd g (100 + r) (m_X2_nextPlace g r)) (88 + ((m_X0_ladleNumbered (upd g (100 + r) (m_X2_nextPlace g r)) (m_X0_numberOfLadleOn (upd g (100 + r) (m_X2_nextPlace g r)) r)).getD 0)) (m_X2_nextPlace g r))
  else (upd g (100 + r) (m_X2_nextPlace g r))
set_option maxHeartbeats 4000000 in
set_option maxRecDepth 100000 in
theorem c_X0_stepOrWait (l : Launch) (G : GG) (ad : Nat → Nat) (g : St) {r : Nat} (hr : r < 2) {r2 : Nat} (hr2 : r2 < 2) : Ct l G yX0_stepOrWait cX0_stepOrWait 5 (none : Option Jvm.ClassFile.FieldType) rm_X0_stepOrWait [.ref (ad 12), .ref (ad (26 + r)), .ref (ad (26 + r2))] (aw G ad g) (fun rv W1 => rv = none ∧ W1 = aw G ad (m_X0_stepOrWait g r r2)) := by
  refine Ct.mk2 (by decide) (Nat.le_of_ble_eq_true rfl) ?_
  intro p e s m args below meth c A H locs ls Q cx wo hl hQ
  obtain ⟨hx, hb, hml, hr, hlo, hown, hts, hnm, kn, hA⟩ := id cx
  have hl : lv_has ls 5 [(0, .ref (ad 12)), (1, .ref (ad (26 + r))), (2, .ref (ad (26 + r2)))] := hl
  generalize hM : m_X0_stepOrWait g r r2 = M at hQ
  unfold m_X0_stepOrWait at hM
  refine lv_aload_n hx hb dX0_stepOrWait_0 rfl (lv_at hl 1 rfl) ?_
  refine call_V (As := []) (rest := []) (fun X => X) Fr_id cx (c_X2_nextPlace l G ad _ (r := r) (by omega)) fx_X2_nextPlace m_422 m_423 m_424 ⟨by decide, by decide⟩ wo (at_crane G _ _ (r := r) (by omega)) rfl rfl rfl hl.1 rfl (Nat.le_of_ble_eq_true rfl) dX0_stepOrWait_1 ⟨by decide, by decide⟩ (fun v W1 H locs hp wo => ?_)
  obtain ⟨rfl, rfl⟩ := hp
  refine nrm_i ?_
  refine lv_istore_n (lv' := [(3, .int (m_X2_nextPlace g r)), (0, .ref (ad 12)), (1, .ref (ad (26 + r))), (2, .ref (ad (26 + r2)))]) hx hb dX0_stepOrWait_4 rfl hl (by decide) rfl (fun ls hl => ?_)
  refine lv_iload_n hx hb dX0_stepOrWait_5 rfl (lv_at hl 0 rfl) ?_
  refine lv_aload_n hx hb dX0_stepOrWait_6 rfl (lv_at hl 3 rfl) ?_
  refine gf_crane_place (r := r2) (fun X => X) Fr_id cx wo (by omega) m_107 dX0_stepOrWait_7 ?_
  refine lv_icmp_ne (tgt := 24) hx hb dX0_stepOrWait_10 (by decide) (fun c_1 => ?_) (fun c_1 => ?_)
  · skip
    rw [if_neg c_1] at hM
    refine lv_aload_n hx hb dX0_stepOrWait_24 rfl (lv_at hl 2 rfl) ?_
    refine lv_iload_n hx hb dX0_stepOrWait_25 rfl (lv_at hl 0 rfl) ?_
    refine pf_crane_place (r := r) (fun X => X) Fr_id cx wo (by omega) m_107 dX0_stepOrWait_26 (fun H locs gz hgz wo => ?_)
    subst hgz
    refine lv_aload_n hx hb dX0_stepOrWait_29 rfl (lv_at hl 1 rfl) ?_
    refine lv_aload_n hx hb dX0_stepOrWait_30 rfl (lv_at hl 1 rfl) ?_
    refine lv_aload_n hx hb dX0_stepOrWait_31 rfl (lv_at hl 2 rfl) ?_
    refine call_V (As := [.ref (ad (26 + r))]) (rest := [.ref (ad 12)]) (fun X => X) Fr_id cx (c_X0_numberOfLadleOn l G ad _ (r := r) (by omega)) fx_X0_numberOfLadleOn m_426 m_427 m_428 ⟨by decide, by decide⟩ wo (at_aisle G _ _ ) rfl rfl rfl hl.1 rfl (Nat.le_of_ble_eq_true rfl) dX0_stepOrWait_32 ⟨by decide, by decide⟩ (fun v W1 H locs hp wo => ?_)
    obtain ⟨rfl, rfl⟩ := hp
    refine nrm_i ?_
    refine call_V (As := [.int (m_X0_numberOfLadleOn (upd g (100 + r) (m_X2_nextPlace g r)) r)]) (rest := []) (fun X => X) Fr_id cx (c_X0_ladleNumbered l G ad _ (m_X0_numberOfLadleOn (upd g (100 + r) (m_X2_nextPlace g r)) r)) fx_X0_ladleNumbered m_430 m_431 m_432 ⟨by decide, by decide⟩ wo (at_aisle G _ _ ) rfl rfl rfl hl.1 rfl (Nat.le_of_ble_eq_true rfl) dX0_stepOrWait_35 ⟨by decide, by decide⟩ (fun v W1 H locs hp wo => ?_)
    obtain ⟨rfl, rfl⟩ := hp
    refine nrm_a (fun o_2 => ?_) (fun o_2 => ?_)
    · skip
      rw [if_neg o_2] at hM
      refine lv_astoreN (lv' := [(4, .null), (3, .int (m_X2_nextPlace g r)), (0, .ref (ad 12)), (1, .ref (ad (26 + r))), (2, .ref (ad (26 + r2)))]) hx hb dX0_stepOrWait_38 hl (by decide) rfl (fun ls hl => ?_)
      refine lv_aloadN hx hb dX0_stepOrWait_40 (lv_at hl 0 rfl) ?_
      refine lv_ifnullN (tgt := 51) hx hb dX0_stepOrWait_42 (by decide) ?_
      exact r2_v cx hQ wo dX0_stepOrWait_51 (by subst hM; exact ⟨rfl, rfl⟩)
    · skip
      rw [if_pos o_2] at hM
      have hq_3 : ((m_X0_ladleNumbered (upd g (100 + r) (m_X2_nextPlace g r)) (m_X0_numberOfLadleOn (upd g (100 + r) (m_X2_nextPlace g r)) r)).getD 0) < 4 := m_X0_ladleNumbered_lt _ _
      refine topv (y := .ref (ad (22 + ((m_X0_ladleNumbered (upd g (100 + r) (m_X2_nextPlace g r)) (m_X0_numberOfLadleOn (upd g (100 + r) (m_X2_nextPlace g r)) r)).getD 0)))) rfl ?_
      refine lv_astore (lv' := [(4, .ref (ad (22 + ((m_X0_ladleNumbered (upd g (100 + r) (m_X2_nextPlace g r)) (m_X0_numberOfLadleOn (upd g (100 + r) (m_X2_nextPlace g r)) r)).getD 0)))), (3, .int (m_X2_nextPlace g r)), (0, .ref (ad 12)), (1, .ref (ad (26 + r))), (2, .ref (ad (26 + r2)))]) hx hb dX0_stepOrWait_38 hl (by decide) rfl (fun ls hl => ?_)
      refine lv_aload hx hb dX0_stepOrWait_40 (lv_at hl 0 rfl) ?_
      refine lv_ifnull hx hb dX0_stepOrWait_42 ?_
      refine lv_aload hx hb dX0_stepOrWait_45 (lv_at hl 0 rfl) ?_
      refine lv_iload_n hx hb dX0_stepOrWait_47 rfl (lv_at hl 1 rfl) ?_
      refine pf_ladle_place (d := ((m_X0_ladleNumbered (upd g (100 + r) (m_X2_nextPlace g r)) (m_X0_numberOfLadleOn (upd g (100 + r) (m_X2_nextPlace g r)) r)).getD 0)) (fun X => X) Fr_id cx wo (by omega) m_234 dX0_stepOrWait_48 (fun H locs gz hgz wo => ?_)
      subst hgz
      exact r2_v cx hQ wo dX0_stepOrWait_51 (by subst hM; exact ⟨rfl, rfl⟩)
  · skip
    rw [if_pos c_1] at hM
    refine lv_aload_n hx hb dX0_stepOrWait_13 rfl (lv_at hl 2 rfl) ?_
    refine lv_dup hx hb dX0_stepOrWait_14 rfl ?_
    refine gf_crane_waits (r := r) (fun X => X) Fr_id cx wo (by omega) m_112 dX0_stepOrWait_15 ?_
    refine lv_iconst (v := 1) hx hb dX0_stepOrWait_18 (by decide) ?_
    refine lv_iadd hx hb dX0_stepOrWait_19 ?_
    refine pf_crane_waits (r := r) (fun X => X) Fr_id cx wo (by omega) m_112 dX0_stepOrWait_20 (fun H locs gz hgz wo => ?_)
    subst hgz
    exact r2_v cx hQ wo dX0_stepOrWait_23 (by subst hM; exact ⟨rfl, rfl⟩)
abbrev rm_X0_take : Room := { frames := 1, cells := 0, slots := 0, locals := 25 }
def m_X0_take (g : St) (r : Nat) : Bool × St :=
  if (m_X0_ladleStandingAt g (g (100 + r))).isSome = true then (true, (upd g (92 + ((m_X0_ladleStandingAt g (g (100 + r))).getD 0)) (nI r)))
  else (false, g)
set_option maxHeartbeats 4000000 in
set_option maxRecDepth 100000 in
theorem c_X0_take (l : Launch) (G : GG) (ad : Nat → Nat) (g : St) {r : Nat} (hr : r < 2) : Ct l G yX0_take cX0_take 3 (some Jvm.ClassFile.FieldType.boolean) rm_X0_take [.ref (ad 12), .ref (ad (26 + r))] (aw G ad g) (fun rv W1 => rv = some (.int (bi (m_X0_take g r).1)) ∧ W1 = aw G ad (m_X0_take g r).2) := by
  refine Ct.mk2 (by decide) (Nat.le_of_ble_eq_true rfl) ?_
  intro p e s m args below meth c A H locs ls Q cx wo hl hQ
  obtain ⟨hx, hb, hml, hr, hlo, hown, hts, hnm, kn, hA⟩ := id cx
  have hl : lv_has ls 3 [(0, .ref (ad 12)), (1, .ref (ad (26 + r)))] := hl
  generalize hM : m_X0_take g r = M at hQ
  unfold m_X0_take at hM
  refine lv_aload_n hx hb dX0_take_0 rfl (lv_at hl 0 rfl) ?_
  refine lv_aload_n hx hb dX0_take_1 rfl (lv_at hl 1 rfl) ?_
  refine gf_crane_place (r := r) (fun X => X) Fr_id cx wo (by omega) m_107 dX0_take_2 ?_
  refine call_V (As := [.int (g (100 + r))]) (rest := []) (fun X => X) Fr_id cx (c_X0_ladleStandingAt l G ad _ (g (100 + r))) fx_X0_ladleStandingAt m_442 m_443 m_444 ⟨by decide, by decide⟩ wo (at_aisle G _ _ ) rfl rfl rfl hl.1 rfl (Nat.le_of_ble_eq_true rfl) dX0_take_5 ⟨by decide, by decide⟩ (fun v W1 H locs hp wo => ?_)
  obtain ⟨rfl, rfl⟩ := hp
  refine nrm_a (fun o_1 => ?_) (fun o_1 => ?_)
  · skip
    rw [if_neg o_1] at hM
    refine lv_astore_nN (lv' := [(2, .null), (0, .ref (ad 12)), (1, .ref (ad (26 + r)))]) hx hb dX0_take_8 rfl hl (by decide) rfl (fun ls hl => ?_)
    refine lv_aload_nN hx hb dX0_take_9 rfl (lv_at hl 0 rfl) ?_
    refine lv_ifnonnullN hx hb dX0_take_10 ?_
    refine lv_iconst (v := 0) hx hb dX0_take_13 (by decide) ?_
    refine tope (y := bi false) rfl ?_
    exact r2_z cx hQ wo dX0_take_14 (by subst hM; exact ⟨rfl, rfl⟩)
  · skip
    rw [if_pos o_1] at hM
    have hq_2 : ((m_X0_ladleStandingAt g (g (100 + r))).getD 0) < 4 := m_X0_ladleStandingAt_lt _ _
    refine topv (y := .ref (ad (22 + ((m_X0_ladleStandingAt g (g (100 + r))).getD 0)))) rfl ?_
    refine lv_astore_n (lv' := [(2, .ref (ad (22 + ((m_X0_ladleStandingAt g (g (100 + r))).getD 0)))), (0, .ref (ad 12)), (1, .ref (ad (26 + r)))]) hx hb dX0_take_8 rfl hl (by decide) rfl (fun ls hl => ?_)
    refine lv_aload_n hx hb dX0_take_9 rfl (lv_at hl 0 rfl) ?_
    refine lv_ifnonnull (tgt := 15) hx hb dX0_take_10 (by decide) ?_
    refine lv_aload_n hx hb dX0_take_15 rfl (lv_at hl 0 rfl) ?_
    refine lv_aload_n hx hb dX0_take_16 rfl (lv_at hl 2 rfl) ?_
    refine gf_crane_number (r := r) (fun X => X) Fr_id cx wo (by omega) m_103 dX0_take_17 ?_
    refine tope (y := (nI r)) (congrArg nI (by omega)) ?_
    refine pf_ladle_carrier (d := ((m_X0_ladleStandingAt g (g (100 + r))).getD 0)) (fun X => X) Fr_id cx wo (by omega) m_236 dX0_take_20 (fun H locs gz hgz wo => ?_)
    subst hgz
    refine lv_iconst (v := 1) hx hb dX0_take_23 (by decide) ?_
    refine tope (y := bi true) rfl ?_
    exact r2_z cx hQ wo dX0_take_24 (by subst hM; exact ⟨rfl, rfl⟩)
abbrev rm_X0_set : Room := { frames := 2, cells := 0, slots := 0, locals := 46 }
def m_X0_set (g : St) (d : Nat) : Bool × St :=
  if (m_X0_isFloor g (g (88 + d))) = true then (if (m_X0_ladleStandingAt g (g (88 + d))).isSome = true then (false, g)
    else (true, (upd g (92 + d) (-4))))
  else (false, g)
set_option maxHeartbeats 4000000 in
set_option maxRecDepth 100000 in
theorem c_X0_set (l : Launch) (G : GG) (ad : Nat → Nat) (g : St) {d : Nat} (hd : d < 4) : Ct l G yX0_set cX0_set 2 (some Jvm.ClassFile.FieldType.boolean) rm_X0_set [.ref (ad 12), .ref (ad (22 + d))] (aw G ad g) (fun rv W1 => rv = some (.int (bi (m_X0_set g d).1)) ∧ W1 = aw G ad (m_X0_set g d).2) := by
  refine Ct.mk2 (by decide) (Nat.le_of_ble_eq_true rfl) ?_
  intro p e s m args below meth c A H locs ls Q cx wo hl hQ
  obtain ⟨hx, hb, hml, hr, hlo, hown, hts, hnm, kn, hA⟩ := id cx
  have hl : lv_has ls 2 [(0, .ref (ad 12)), (1, .ref (ad (22 + d)))] := hl
  generalize hM : m_X0_set g d = M at hQ
  unfold m_X0_set at hM
  refine lv_aload_n hx hb dX0_set_0 rfl (lv_at hl 0 rfl) ?_
  refine lv_aload_n hx hb dX0_set_1 rfl (lv_at hl 1 rfl) ?_
  refine gf_ladle_place (d := d) (fun X => X) Fr_id cx wo (by omega) m_234 dX0_set_2 ?_
  refine call_V (As := [.int (g (88 + d))]) (rest := []) (fun X => X) Fr_id cx (c_X0_isFloor l G ad _ (g (88 + d))) fx_X0_isFloor m_454 m_455 m_456 ⟨by decide, by decide⟩ wo (at_aisle G _ _ ) rfl rfl rfl hl.1 rfl (Nat.le_of_ble_eq_true rfl) dX0_set_5 ⟨by decide, by decide⟩ (fun v W1 H locs hp wo => ?_)
  obtain ⟨rfl, rfl⟩ := hp
  refine nrm_i ?_
  refine if_eq_b (tgt := 22) hx hb dX0_set_8 (by decide) (fun c_1 => ?_) (fun c_1 => ?_)
  · skip
    rw [if_neg c_1] at hM
    refine lv_iconst (v := 0) hx hb dX0_set_22 (by decide) ?_
    refine tope (y := bi false) rfl ?_
    exact r2_z cx hQ wo dX0_set_23 (by subst hM; exact ⟨rfl, rfl⟩)
  · skip
    rw [if_pos c_1] at hM
    refine lv_aload_n hx hb dX0_set_11 rfl (lv_at hl 0 rfl) ?_
    refine lv_aload_n hx hb dX0_set_12 rfl (lv_at hl 1 rfl) ?_
    refine gf_ladle_place (d := d) (fun X => X) Fr_id cx wo (by omega) m_234 dX0_set_13 ?_
    refine call_V (As := [.int (g (88 + d))]) (rest := []) (fun X => X) Fr_id cx (c_X0_ladleStandingAt l G ad _ (g (88 + d))) fx_X0_ladleStandingAt m_442 m_443 m_444 ⟨by decide, by decide⟩ wo (at_aisle G _ _ ) rfl rfl rfl hl.1 rfl (Nat.le_of_ble_eq_true rfl) dX0_set_16 ⟨by decide, by decide⟩ (fun v W1 H locs hp wo => ?_)
    obtain ⟨rfl, rfl⟩ := hp
    refine nrm_a (fun o_2 => ?_) (fun o_2 => ?_)
    · skip
      rw [if_neg o_2] at hM
      refine lv_ifnullN (tgt := 24) hx hb dX0_set_19 (by decide) ?_
      refine lv_aload_n hx hb dX0_set_24 rfl (lv_at hl 1 rfl) ?_
      refine lv_bipush (v := (-4)) hx hb dX0_set_25 (by decide) ?_
      refine pf_ladle_carrier (d := d) (fun X => X) Fr_id cx wo (by omega) m_236 dX0_set_27 (fun H locs gz hgz wo => ?_)
      subst hgz
      refine lv_iconst (v := 1) hx hb dX0_set_30 (by decide) ?_
      refine tope (y := bi true) rfl ?_
      exact r2_z cx hQ wo dX0_set_31 (by subst hM; exact ⟨rfl, rfl⟩)
    · skip
      rw [if_pos o_2] at hM
      have hq_3 : ((m_X0_ladleStandingAt g (g (88 + d))).getD 0) < 4 := m_X0_ladleStandingAt_lt _ _
      refine topv (y := .ref (ad (22 + ((m_X0_ladleStandingAt g (g (88 + d))).getD 0)))) rfl ?_
      refine lv_ifnull hx hb dX0_set_19 ?_
      refine lv_iconst (v := 0) hx hb dX0_set_22 (by decide) ?_
      refine tope (y := bi false) rfl ?_
      exact r2_z cx hQ wo dX0_set_23 (by subst hM; exact ⟨rfl, rfl⟩)
abbrev rm_X0_tapStuff : Room := { frames := 1, cells := 0, slots := 0, locals := 22 }
def m_X0_tapStuff (g : St) (d : Nat) (k : Int32) (n : Int32) : St :=
  (m_X4_add (m_X4_add g 0 k (-n)) (4 + d) k n)
set_option maxHeartbeats 4000000 in
set_option maxRecDepth 100000 in
theorem c_X0_tapStuff (l : Launch) (G : GG) (ad : Nat → Nat) (g : St) {d : Nat} (hd : d < 4) (k : Int32) (n : Int32) : Ct l G yX0_tapStuff cX0_tapStuff 4 (none : Option Jvm.ClassFile.FieldType) rm_X0_tapStuff [.ref (ad 12), .ref (ad (22 + d)), .int k, .int n] (aw G ad g) (fun rv W1 => rv = none ∧ W1 = aw G ad (m_X0_tapStuff g d k n)) := by
  refine Ct.mk2 (by decide) (Nat.le_of_ble_eq_true rfl) ?_
  intro p e s m args below meth c A H locs ls Q cx wo hl hQ
  obtain ⟨hx, hb, hml, hr, hlo, hown, hts, hnm, kn, hA⟩ := id cx
  have hl : lv_has ls 4 [(0, .ref (ad 12)), (1, .ref (ad (22 + d))), (2, .int k), (3, .int n)] := hl
  generalize hM : m_X0_tapStuff g d k n = M at hQ
  unfold m_X0_tapStuff at hM
  refine lv_aload_n hx hb dX0_tapStuff_0 rfl (lv_at hl 0 rfl) ?_
  refine gf_aisle_furnace (fun X => X) Fr_id cx wo  m_250 dX0_tapStuff_1 ?_
  refine lv_iload_n hx hb dX0_tapStuff_4 rfl (lv_at hl 2 rfl) ?_
  refine lv_iload_n hx hb dX0_tapStuff_5 rfl (lv_at hl 3 rfl) ?_
  refine lv_ineg hx hb dX0_tapStuff_6 ?_
  refine call_V (As := [.int k, .int (-n)]) (rest := []) (fun X => X) Fr_id cx (c_X4_add l G ad _ (t := 0) (by omega) (by omega) k (-n)) fx_X4_add m_361 m_362 m_363 ⟨by decide, by decide⟩ wo (at_stuff G _ _ (t := 0) (by omega) (by omega)) rfl rfl rfl hl.1 rfl (Nat.le_of_ble_eq_true rfl) dX0_tapStuff_7 ⟨by decide, by decide⟩ (fun v W1 H locs hp wo => ?_)
  obtain ⟨rfl, rfl⟩ := hp
  refine nrm_v ?_
  refine lv_aload_n hx hb dX0_tapStuff_10 rfl (lv_at hl 1 rfl) ?_
  refine gf_ladle_stuff (d := d) (fun X => X) Fr_id cx wo (by omega) m_230 dX0_tapStuff_11 ?_
  refine topv (y := .ref (ad (4 + d))) (congrArg (fun z => Value.ref (ad z)) (by omega)) ?_
  refine lv_iload_n hx hb dX0_tapStuff_14 rfl (lv_at hl 2 rfl) ?_
  refine lv_iload_n hx hb dX0_tapStuff_15 rfl (lv_at hl 3 rfl) ?_
  refine call_V (As := [.int k, .int n]) (rest := []) (fun X => X) Fr_id cx (c_X4_add l G ad _ (t := 4 + d) (by omega) (by omega) k n) fx_X4_add m_361 m_362 m_363 ⟨by decide, by decide⟩ wo (at_stuff G _ _ (t := 4 + d) (by omega) (by omega)) rfl rfl rfl hl.1 rfl (Nat.le_of_ble_eq_true rfl) dX0_tapStuff_16 ⟨by decide, by decide⟩ (fun v W1 H locs hp wo => ?_)
  obtain ⟨rfl, rfl⟩ := hp
  refine nrm_v ?_
  exact r2_v cx hQ wo dX0_tapStuff_19 (by subst hM; exact ⟨rfl, rfl⟩)
abbrev rm_X0_tap : Room := { frames := 2, cells := 0, slots := 0, locals := 45 }
def m_X0_tap (g : St) (d : Nat) : Bool × St :=
  if (g (88 + d)) = 0 then (if (g (96 + d)) = 0 then (if (m_X4_all g 0) < 1 then (false, g)
      else if 1 ≤ (mn (m_X4_all g 0) (m_X3_room g d)) then (true, (m_X0_tapStuff (m_X0_tapStuff (m_X0_tapStuff (upd g (96 + d) 1) d 1 (((mn (m_X4_all g 0) (m_X3_room g d)) - ((((g 1) * (mn (m_X4_all g 0) (m_X3_room g d))) / (m_X4_all g 0)) + (mn ((((mn (m_X4_all g 0) (m_X3_room g d)) - (((g 0) * (mn (m_X4_all g 0) (m_X3_room g d))) / (m_X4_all g 0))) - (((g 1) * (mn (m_X4_all g 0) (m_X3_room g d))) / (m_X4_all g 0))) - (mn (((mn (m_X4_all g 0) (m_X3_room g d)) - (((g 0) * (mn (m_X4_all g 0) (m_X3_room g d))) / (m_X4_all g 0))) - (((g 1) * (mn (m_X4_all g 0) (m_X3_room g d))) / (m_X4_all g 0))) (g 2))) ((g 1) - (((g 1) * (mn (m_X4_all g 0) (m_X3_room g d))) / (m_X4_all g 0)))))) - (mn (((mn (m_X4_all g 0) (m_X3_room g d)) - (((g 0) * (mn (m_X4_all g 0) (m_X3_room g d))) / (m_X4_all g 0))) - (((g 1) * (mn (m_X4_all g 0) (m_X3_room g d))) / (m_X4_all g 0))) (g 2)))) d 2 ((((g 1) * (mn (m_X4_all g 0) (m_X3_room g d))) / (m_X4_all g 0)) + (mn ((((mn (m_X4_all g 0) (m_X3_room g d)) - (((g 0) * (mn (m_X4_all g 0) (m_X3_room g d))) / (m_X4_all g 0))) - (((g 1) * (mn (m_X4_all g 0) (m_X3_room g d))) / (m_X4_all g 0))) - (mn (((mn (m_X4_all g 0) (m_X3_room g d)) - (((g 0) * (mn (m_X4_all g 0) (m_X3_room g d))) / (m_X4_all g 0))) - (((g 1) * (mn (m_X4_all g 0) (m_X3_room g d))) / (m_X4_all g 0))) (g 2))) ((g 1) - (((g 1) * (mn (m_X4_all g 0) (m_X3_room g d))) / (m_X4_all g 0)))))) d 3 (mn (((mn (m_X4_all g 0) (m_X3_room g d)) - (((g 0) * (mn (m_X4_all g 0) (m_X3_room g d))) / (m_X4_all g 0))) - (((g 1) * (mn (m_X4_all g 0) (m_X3_room g d))) / (m_X4_all g 0))) (g 2))))
      else (false, g))
    else (false, g))
  else (false, g)
set_option maxHeartbeats 4000000 in
set_option maxRecDepth 100000 in
theorem c_X0_tap (l : Launch) (G : GG) (ad : Nat → Nat) (g : St) {d : Nat} (hd : d < 4) : Ct l G yX0_tap cX0_tap 8 (some Jvm.ClassFile.FieldType.boolean) rm_X0_tap [.ref (ad 12), .ref (ad (22 + d))] (aw G ad g) (fun rv W1 => rv = some (.int (bi (m_X0_tap g d).1)) ∧ W1 = aw G ad (m_X0_tap g d).2) := by
  refine Ct.mk2 (by decide) (Nat.le_of_ble_eq_true rfl) ?_
  intro p e s m args below meth c A H locs ls Q cx wo hl hQ
  obtain ⟨hx, hb, hml, hr, hlo, hown, hts, hnm, kn, hA⟩ := id cx
  have hl : lv_has ls 8 [(0, .ref (ad 12)), (1, .ref (ad (22 + d)))] := hl
  generalize hM : m_X0_tap g d = M at hQ
  unfold m_X0_tap at hM
  refine lv_aload_n hx hb dX0_tap_0 rfl (lv_at hl 0 rfl) ?_
  refine gf_aisle_furnace (fun X => X) Fr_id cx wo  m_250 dX0_tap_1 ?_
  refine call_V (As := []) (rest := []) (fun X => X) Fr_id cx (c_X4_all l G ad _ (t := 0) (by omega) (by omega)) fx_X4_all m_356 m_316 m_317 ⟨by decide, by decide⟩ wo (at_stuff G _ _ (t := 0) (by omega) (by omega)) rfl rfl rfl hl.1 rfl (Nat.le_of_ble_eq_true rfl) dX0_tap_4 ⟨by decide, by decide⟩ (fun v W1 H locs hp wo => ?_)
  obtain ⟨rfl, rfl⟩ := hp
  refine nrm_i ?_
  refine lv_istore_n (lv' := [(2, .int (m_X4_all g 0)), (0, .ref (ad 12)), (1, .ref (ad (22 + d)))]) hx hb dX0_tap_7 rfl hl (by decide) rfl (fun ls hl => ?_)
  refine lv_iload_n hx hb dX0_tap_8 rfl (lv_at hl 0 rfl) ?_
  refine lv_aload_n hx hb dX0_tap_9 rfl (lv_at hl 2 rfl) ?_
  refine call_V (As := []) (rest := [.int (m_X4_all g 0)]) (fun X => X) Fr_id cx (c_X3_room l G ad _ (d := d) (by omega)) fx_X3_room m_462 m_463 m_464 ⟨by decide, by decide⟩ wo (at_ladle G _ _ (d := d) (by omega)) rfl rfl rfl hl.1 rfl (Nat.le_of_ble_eq_true rfl) dX0_tap_10 ⟨by decide, by decide⟩ (fun v W1 H locs hp wo => ?_)
  obtain ⟨rfl, rfl⟩ := hp
  refine nrm_i ?_
  refine min_r cx m_378 dX0_tap_13 hl.1 (by decide) (Nat.le_of_ble_eq_true rfl) (by decide) (by decide) ?_
  refine lv_istore_n (lv' := [(3, .int (mn (m_X4_all g 0) (m_X3_room g d))), (2, .int (m_X4_all g 0)), (0, .ref (ad 12)), (1, .ref (ad (22 + d)))]) hx hb dX0_tap_16 rfl hl (by decide) rfl (fun ls hl => ?_)
  refine lv_aload_n hx hb dX0_tap_17 rfl (lv_at hl 3 rfl) ?_
  refine gf_ladle_place (d := d) (fun X => X) Fr_id cx wo (by omega) m_234 dX0_tap_18 ?_
  refine lv_if_ne (tgt := 41) hx hb dX0_tap_21 (by decide) (fun c_1 => ?_) (fun c_1 => ?_)
  · skip
    rw [if_neg c_1] at hM
    refine lv_iconst (v := 0) hx hb dX0_tap_41 (by decide) ?_
    refine tope (y := bi false) rfl ?_
    exact r2_z cx hQ wo dX0_tap_42 (by subst hM; exact ⟨rfl, rfl⟩)
  · skip
    rw [if_pos c_1] at hM
    refine lv_aload_n hx hb dX0_tap_24 rfl (lv_at hl 3 rfl) ?_
    refine gf_ladle_sort (d := d) (fun X => X) Fr_id cx wo (by omega) m_238 dX0_tap_25 ?_
    refine lv_if_ne (tgt := 41) hx hb dX0_tap_28 (by decide) (fun c_2 => ?_) (fun c_2 => ?_)
    · skip
      rw [if_neg c_2] at hM
      refine lv_iconst (v := 0) hx hb dX0_tap_41 (by decide) ?_
      refine tope (y := bi false) rfl ?_
      exact r2_z cx hQ wo dX0_tap_42 (by subst hM; exact ⟨rfl, rfl⟩)
    · skip
      rw [if_pos c_2] at hM
      refine lv_iload_n hx hb dX0_tap_31 rfl (lv_at hl 1 rfl) ?_
      refine lv_iconst (v := 1) hx hb dX0_tap_32 (by decide) ?_
      refine lv_icmp_lt (tgt := 41) hx hb dX0_tap_33 (by decide) (fun c_3 => ?_) (fun c_3 => ?_)
      · skip
        rw [if_pos c_3] at hM
        refine lv_iconst (v := 0) hx hb dX0_tap_41 (by decide) ?_
        refine tope (y := bi false) rfl ?_
        exact r2_z cx hQ wo dX0_tap_42 (by subst hM; exact ⟨rfl, rfl⟩)
      · skip
        rw [if_neg c_3] at hM
        refine lv_iload_n hx hb dX0_tap_36 rfl (lv_at hl 0 rfl) ?_
        refine lv_iconst (v := 1) hx hb dX0_tap_37 (by decide) ?_
        refine lv_icmp_ge (tgt := 43) hx hb dX0_tap_38 (by decide) (fun c_4 => ?_) (fun c_4 => ?_)
        · skip
          rw [if_pos c_4] at hM
          refine lv_aload_n hx hb dX0_tap_43 rfl (lv_at hl 2 rfl) ?_
          refine gf_aisle_furnace (fun X => X) Fr_id cx wo  m_250 dX0_tap_44 ?_
          refine gfi_stuff_copper (t := 0) (i := 0) (fun X => X) Fr_id cx wo (by omega) (by omega) (by omega) m_71 dX0_tap_47 ?_
          refine lv_iload_n hx hb dX0_tap_50 rfl (lv_at hl 0 rfl) ?_
          refine lv_imul hx hb dX0_tap_51 ?_
          refine lv_iload_n hx hb dX0_tap_52 rfl (lv_at hl 1 rfl) ?_
          refine lv_idiv hx hb dX0_tap_53 (fun hz => c_3 (by rw [hz]; decide)) ?_
          refine lv_istore (lv' := [(4, .int (((g 0) * (mn (m_X4_all g 0) (m_X3_room g d))) / (m_X4_all g 0))), (3, .int (mn (m_X4_all g 0) (m_X3_room g d))), (2, .int (m_X4_all g 0)), (0, .ref (ad 12)), (1, .ref (ad (22 + d)))]) hx hb dX0_tap_54 hl (by decide) rfl (fun ls hl => ?_)
          refine lv_aload_n hx hb dX0_tap_56 rfl (lv_at hl 3 rfl) ?_
          refine gf_aisle_furnace (fun X => X) Fr_id cx wo  m_250 dX0_tap_57 ?_
          refine gfi_stuff_iron (t := 0) (i := 1) (fun X => X) Fr_id cx wo (by omega) (by omega) (by omega) m_73 dX0_tap_60 ?_
          refine lv_iload_n hx hb dX0_tap_63 rfl (lv_at hl 1 rfl) ?_
          refine lv_imul hx hb dX0_tap_64 ?_
          refine lv_iload_n hx hb dX0_tap_65 rfl (lv_at hl 2 rfl) ?_
          refine lv_idiv hx hb dX0_tap_66 (fun hz => c_3 (by rw [hz]; decide)) ?_
          refine lv_istore (lv' := [(5, .int (((g 1) * (mn (m_X4_all g 0) (m_X3_room g d))) / (m_X4_all g 0))), (4, .int (((g 0) * (mn (m_X4_all g 0) (m_X3_room g d))) / (m_X4_all g 0))), (3, .int (mn (m_X4_all g 0) (m_X3_room g d))), (2, .int (m_X4_all g 0)), (0, .ref (ad 12)), (1, .ref (ad (22 + d)))]) hx hb dX0_tap_67 hl (by decide) rfl (fun ls hl => ?_)
          refine lv_iload_n hx hb dX0_tap_69 rfl (lv_at hl 2 rfl) ?_
          refine lv_iload hx hb dX0_tap_70 (lv_at hl 1 rfl) ?_
          refine lv_isub hx hb dX0_tap_72 ?_
          refine lv_iload hx hb dX0_tap_73 (lv_at hl 0 rfl) ?_
          refine lv_isub hx hb dX0_tap_75 ?_
          refine lv_aload_n hx hb dX0_tap_76 rfl (lv_at hl 4 rfl) ?_
          refine gf_aisle_furnace (fun X => X) Fr_id cx wo  m_250 dX0_tap_77 ?_
          refine gfi_stuff_sulphur (t := 0) (i := 2) (fun X => X) Fr_id cx wo (by omega) (by omega) (by omega) m_76 dX0_tap_80 ?_
          refine min_r cx m_378 dX0_tap_83 hl.1 (by decide) (Nat.le_of_ble_eq_true rfl) (by decide) (by decide) ?_
          refine lv_istore (lv' := [(6, .int (mn (((mn (m_X4_all g 0) (m_X3_room g d)) - (((g 0) * (mn (m_X4_all g 0) (m_X3_room g d))) / (m_X4_all g 0))) - (((g 1) * (mn (m_X4_all g 0) (m_X3_room g d))) / (m_X4_all g 0))) (g 2))), (5, .int (((g 1) * (mn (m_X4_all g 0) (m_X3_room g d))) / (m_X4_all g 0))), (4, .int (((g 0) * (mn (m_X4_all g 0) (m_X3_room g d))) / (m_X4_all g 0))), (3, .int (mn (m_X4_all g 0) (m_X3_room g d))), (2, .int (m_X4_all g 0)), (0, .ref (ad 12)), (1, .ref (ad (22 + d)))]) hx hb dX0_tap_86 hl (by decide) rfl (fun ls hl => ?_)
          refine lv_iload_n hx hb dX0_tap_88 rfl (lv_at hl 3 rfl) ?_
          refine lv_iload hx hb dX0_tap_89 (lv_at hl 2 rfl) ?_
          refine lv_isub hx hb dX0_tap_91 ?_
          refine lv_iload hx hb dX0_tap_92 (lv_at hl 1 rfl) ?_
          refine lv_isub hx hb dX0_tap_94 ?_
          refine lv_iload hx hb dX0_tap_95 (lv_at hl 0 rfl) ?_
          refine lv_isub hx hb dX0_tap_97 ?_
          refine lv_istore (lv' := [(7, .int ((((mn (m_X4_all g 0) (m_X3_room g d)) - (((g 0) * (mn (m_X4_all g 0) (m_X3_room g d))) / (m_X4_all g 0))) - (((g 1) * (mn (m_X4_all g 0) (m_X3_room g d))) / (m_X4_all g 0))) - (mn (((mn (m_X4_all g 0) (m_X3_room g d)) - (((g 0) * (mn (m_X4_all g 0) (m_X3_room g d))) / (m_X4_all g 0))) - (((g 1) * (mn (m_X4_all g 0) (m_X3_room g d))) / (m_X4_all g 0))) (g 2)))), (6, .int (mn (((mn (m_X4_all g 0) (m_X3_room g d)) - (((g 0) * (mn (m_X4_all g 0) (m_X3_room g d))) / (m_X4_all g 0))) - (((g 1) * (mn (m_X4_all g 0) (m_X3_room g d))) / (m_X4_all g 0))) (g 2))), (5, .int (((g 1) * (mn (m_X4_all g 0) (m_X3_room g d))) / (m_X4_all g 0))), (4, .int (((g 0) * (mn (m_X4_all g 0) (m_X3_room g d))) / (m_X4_all g 0))), (3, .int (mn (m_X4_all g 0) (m_X3_room g d))), (2, .int (m_X4_all g 0)), (0, .ref (ad 12)), (1, .ref (ad (22 + d)))]) hx hb dX0_tap_98 hl (by decide) rfl (fun ls hl => ?_)
          refine lv_iload hx hb dX0_tap_100 (lv_at hl 2 rfl) ?_
          refine lv_iload hx hb dX0_tap_102 (lv_at hl 0 rfl) ?_
          refine lv_aload_n hx hb dX0_tap_104 rfl (lv_at hl 6 rfl) ?_
          refine gf_aisle_furnace (fun X => X) Fr_id cx wo  m_250 dX0_tap_105 ?_
          refine gfi_stuff_iron (t := 0) (i := 1) (fun X => X) Fr_id cx wo (by omega) (by omega) (by omega) m_73 dX0_tap_108 ?_
          refine lv_iload hx hb dX0_tap_111 (lv_at hl 2 rfl) ?_
          refine lv_isub hx hb dX0_tap_113 ?_
          refine min_r cx m_378 dX0_tap_114 hl.1 (by decide) (Nat.le_of_ble_eq_true rfl) (by decide) (by decide) ?_
          refine lv_iadd hx hb dX0_tap_117 ?_
          refine lv_istore (lv' := [(5, .int ((((g 1) * (mn (m_X4_all g 0) (m_X3_room g d))) / (m_X4_all g 0)) + (mn ((((mn (m_X4_all g 0) (m_X3_room g d)) - (((g 0) * (mn (m_X4_all g 0) (m_X3_room g d))) / (m_X4_all g 0))) - (((g 1) * (mn (m_X4_all g 0) (m_X3_room g d))) / (m_X4_all g 0))) - (mn (((mn (m_X4_all g 0) (m_X3_room g d)) - (((g 0) * (mn (m_X4_all g 0) (m_X3_room g d))) / (m_X4_all g 0))) - (((g 1) * (mn (m_X4_all g 0) (m_X3_room g d))) / (m_X4_all g 0))) (g 2))) ((g 1) - (((g 1) * (mn (m_X4_all g 0) (m_X3_room g d))) / (m_X4_all g 0)))))), (7, .int ((((mn (m_X4_all g 0) (m_X3_room g d)) - (((g 0) * (mn (m_X4_all g 0) (m_X3_room g d))) / (m_X4_all g 0))) - (((g 1) * (mn (m_X4_all g 0) (m_X3_room g d))) / (m_X4_all g 0))) - (mn (((mn (m_X4_all g 0) (m_X3_room g d)) - (((g 0) * (mn (m_X4_all g 0) (m_X3_room g d))) / (m_X4_all g 0))) - (((g 1) * (mn (m_X4_all g 0) (m_X3_room g d))) / (m_X4_all g 0))) (g 2)))), (6, .int (mn (((mn (m_X4_all g 0) (m_X3_room g d)) - (((g 0) * (mn (m_X4_all g 0) (m_X3_room g d))) / (m_X4_all g 0))) - (((g 1) * (mn (m_X4_all g 0) (m_X3_room g d))) / (m_X4_all g 0))) (g 2))), (4, .int (((g 0) * (mn (m_X4_all g 0) (m_X3_room g d))) / (m_X4_all g 0))), (3, .int (mn (m_X4_all g 0) (m_X3_room g d))), (2, .int (m_X4_all g 0)), (0, .ref (ad 12)), (1, .ref (ad (22 + d)))]) hx hb dX0_tap_118 hl (by decide) rfl (fun ls hl => ?_)
          refine lv_iload_n hx hb dX0_tap_120 rfl (lv_at hl 4 rfl) ?_
          refine lv_iload hx hb dX0_tap_121 (lv_at hl 0 rfl) ?_
          refine lv_isub hx hb dX0_tap_123 ?_
          refine lv_iload hx hb dX0_tap_124 (lv_at hl 2 rfl) ?_
          refine lv_isub hx hb dX0_tap_126 ?_
          refine lv_istore (lv' := [(4, .int (((mn (m_X4_all g 0) (m_X3_room g d)) - ((((g 1) * (mn (m_X4_all g 0) (m_X3_room g d))) / (m_X4_all g 0)) + (mn ((((mn (m_X4_all g 0) (m_X3_room g d)) - (((g 0) * (mn (m_X4_all g 0) (m_X3_room g d))) / (m_X4_all g 0))) - (((g 1) * (mn (m_X4_all g 0) (m_X3_room g d))) / (m_X4_all g 0))) - (mn (((mn (m_X4_all g 0) (m_X3_room g d)) - (((g 0) * (mn (m_X4_all g 0) (m_X3_room g d))) / (m_X4_all g 0))) - (((g 1) * (mn (m_X4_all g 0) (m_X3_room g d))) / (m_X4_all g 0))) (g 2))) ((g 1) - (((g 1) * (mn (m_X4_all g 0) (m_X3_room g d))) / (m_X4_all g 0)))))) - (mn (((mn (m_X4_all g 0) (m_X3_room g d)) - (((g 0) * (mn (m_X4_all g 0) (m_X3_room g d))) / (m_X4_all g 0))) - (((g 1) * (mn (m_X4_all g 0) (m_X3_room g d))) / (m_X4_all g 0))) (g 2)))), (5, .int ((((g 1) * (mn (m_X4_all g 0) (m_X3_room g d))) / (m_X4_all g 0)) + (mn ((((mn (m_X4_all g 0) (m_X3_room g d)) - (((g 0) * (mn (m_X4_all g 0) (m_X3_room g d))) / (m_X4_all g 0))) - (((g 1) * (mn (m_X4_all g 0) (m_X3_room g d))) / (m_X4_all g 0))) - (mn (((mn (m_X4_all g 0) (m_X3_room g d)) - (((g 0) * (mn (m_X4_all g 0) (m_X3_room g d))) / (m_X4_all g 0))) - (((g 1) * (mn (m_X4_all g 0) (m_X3_room g d))) / (m_X4_all g 0))) (g 2))) ((g 1) - (((g 1) * (mn (m_X4_all g 0) (m_X3_room g d))) / (m_X4_all g 0)))))), (7, .int ((((mn (m_X4_all g 0) (m_X3_room g d)) - (((g 0) * (mn (m_X4_all g 0) (m_X3_room g d))) / (m_X4_all g 0))) - (((g 1) * (mn (m_X4_all g 0) (m_X3_room g d))) / (m_X4_all g 0))) - (mn (((mn (m_X4_all g 0) (m_X3_room g d)) - (((g 0) * (mn (m_X4_all g 0) (m_X3_room g d))) / (m_X4_all g 0))) - (((g 1) * (mn (m_X4_all g 0) (m_X3_room g d))) / (m_X4_all g 0))) (g 2)))), (6, .int (mn (((mn (m_X4_all g 0) (m_X3_room g d)) - (((g 0) * (mn (m_X4_all g 0) (m_X3_room g d))) / (m_X4_all g 0))) - (((g 1) * (mn (m_X4_all g 0) (m_X3_room g d))) / (m_X4_all g 0))) (g 2))), (3, .int (mn (m_X4_all g 0) (m_X3_room g d))), (2, .int (m_X4_all g 0)), (0, .ref (ad 12)), (1, .ref (ad (22 + d)))]) hx hb dX0_tap_127 hl (by decide) rfl (fun ls hl => ?_)
          refine lv_aload_n hx hb dX0_tap_129 rfl (lv_at hl 7 rfl) ?_
          refine lv_iconst (v := 1) hx hb dX0_tap_130 (by decide) ?_
          refine pf_ladle_sort (d := d) (fun X => X) Fr_id cx wo (by omega) m_238 dX0_tap_131 (fun H locs gz hgz wo => ?_)
          subst hgz
          refine lv_aload_n hx hb dX0_tap_134 rfl (lv_at hl 6 rfl) ?_
          refine lv_aload_n hx hb dX0_tap_135 rfl (lv_at hl 7 rfl) ?_
          refine lv_iconst (v := 1) hx hb dX0_tap_136 (by decide) ?_
          refine lv_iload hx hb dX0_tap_137 (lv_at hl 0 rfl) ?_
          refine call_V (As := [.ref (ad (22 + d)), .int 1, .int (((mn (m_X4_all g 0) (m_X3_room g d)) - ((((g 1) * (mn (m_X4_all g 0) (m_X3_room g d))) / (m_X4_all g 0)) + (mn ((((mn (m_X4_all g 0) (m_X3_room g d)) - (((g 0) * (mn (m_X4_all g 0) (m_X3_room g d))) / (m_X4_all g 0))) - (((g 1) * (mn (m_X4_all g 0) (m_X3_room g d))) / (m_X4_all g 0))) - (mn (((mn (m_X4_all g 0) (m_X3_room g d)) - (((g 0) * (mn (m_X4_all g 0) (m_X3_room g d))) / (m_X4_all g 0))) - (((g 1) * (mn (m_X4_all g 0) (m_X3_room g d))) / (m_X4_all g 0))) (g 2))) ((g 1) - (((g 1) * (mn (m_X4_all g 0) (m_X3_room g d))) / (m_X4_all g 0)))))) - (mn (((mn (m_X4_all g 0) (m_X3_room g d)) - (((g 0) * (mn (m_X4_all g 0) (m_X3_room g d))) / (m_X4_all g 0))) - (((g 1) * (mn (m_X4_all g 0) (m_X3_room g d))) / (m_X4_all g 0))) (g 2)))]) (rest := []) (fun X => X) Fr_id cx (c_X0_tapStuff l G ad _ (d := d) (by omega) 1 (((mn (m_X4_all g 0) (m_X3_room g d)) - ((((g 1) * (mn (m_X4_all g 0) (m_X3_room g d))) / (m_X4_all g 0)) + (mn ((((mn (m_X4_all g 0) (m_X3_room g d)) - (((g 0) * (mn (m_X4_all g 0) (m_X3_room g d))) / (m_X4_all g 0))) - (((g 1) * (mn (m_X4_all g 0) (m_X3_room g d))) / (m_X4_all g 0))) - (mn (((mn (m_X4_all g 0) (m_X3_room g d)) - (((g 0) * (mn (m_X4_all g 0) (m_X3_room g d))) / (m_X4_all g 0))) - (((g 1) * (mn (m_X4_all g 0) (m_X3_room g d))) / (m_X4_all g 0))) (g 2))) ((g 1) - (((g 1) * (mn (m_X4_all g 0) (m_X3_room g d))) / (m_X4_all g 0)))))) - (mn (((mn (m_X4_all g 0) (m_X3_room g d)) - (((g 0) * (mn (m_X4_all g 0) (m_X3_room g d))) / (m_X4_all g 0))) - (((g 1) * (mn (m_X4_all g 0) (m_X3_room g d))) / (m_X4_all g 0))) (g 2)))) fx_X0_tapStuff m_467 m_469 m_13 ⟨by decide, by decide⟩ wo (at_aisle G _ _ ) rfl rfl rfl hl.1 rfl (Nat.le_of_ble_eq_true rfl) dX0_tap_139 ⟨by decide, by decide⟩ (fun v W1 H locs hp wo => ?_)
          obtain ⟨rfl, rfl⟩ := hp
          refine nrm_v ?_
          refine lv_aload_n hx hb dX0_tap_142 rfl (lv_at hl 6 rfl) ?_
          refine lv_aload_n hx hb dX0_tap_143 rfl (lv_at hl 7 rfl) ?_
          refine lv_iconst (v := 2) hx hb dX0_tap_144 (by decide) ?_
          refine lv_iload hx hb dX0_tap_145 (lv_at hl 1 rfl) ?_
          refine call_V (As := [.ref (ad (22 + d)), .int 2, .int ((((g 1) * (mn (m_X4_all g 0) (m_X3_room g d))) / (m_X4_all g 0)) + (mn ((((mn (m_X4_all g 0) (m_X3_room g d)) - (((g 0) * (mn (m_X4_all g 0) (m_X3_room g d))) / (m_X4_all g 0))) - (((g 1) * (mn (m_X4_all g 0) (m_X3_room g d))) / (m_X4_all g 0))) - (mn (((mn (m_X4_all g 0) (m_X3_room g d)) - (((g 0) * (mn (m_X4_all g 0) (m_X3_room g d))) / (m_X4_all g 0))) - (((g 1) * (mn (m_X4_all g 0) (m_X3_room g d))) / (m_X4_all g 0))) (g 2))) ((g 1) - (((g 1) * (mn (m_X4_all g 0) (m_X3_room g d))) / (m_X4_all g 0)))))]) (rest := []) (fun X => X) Fr_id cx (c_X0_tapStuff l G ad _ (d := d) (by omega) 2 ((((g 1) * (mn (m_X4_all g 0) (m_X3_room g d))) / (m_X4_all g 0)) + (mn ((((mn (m_X4_all g 0) (m_X3_room g d)) - (((g 0) * (mn (m_X4_all g 0) (m_X3_room g d))) / (m_X4_all g 0))) - (((g 1) * (mn (m_X4_all g 0) (m_X3_room g d))) / (m_X4_all g 0))) - (mn (((mn (m_X4_all g 0) (m_X3_room g d)) - (((g 0) * (mn (m_X4_all g 0) (m_X3_room g d))) / (m_X4_all g 0))) - (((g 1) * (mn (m_X4_all g 0) (m_X3_room g d))) / (m_X4_all g 0))) (g 2))) ((g 1) - (((g 1) * (mn (m_X4_all g 0) (m_X3_room g d))) / (m_X4_all g 0)))))) fx_X0_tapStuff m_467 m_469 m_13 ⟨by decide, by decide⟩ wo (at_aisle G _ _ ) rfl rfl rfl hl.1 rfl (Nat.le_of_ble_eq_true rfl) dX0_tap_147 ⟨by decide, by decide⟩ (fun v W1 H locs hp wo => ?_)
          obtain ⟨rfl, rfl⟩ := hp
          refine nrm_v ?_
          refine lv_aload_n hx hb dX0_tap_150 rfl (lv_at hl 6 rfl) ?_
          refine lv_aload_n hx hb dX0_tap_151 rfl (lv_at hl 7 rfl) ?_
          refine lv_iconst (v := 3) hx hb dX0_tap_152 (by decide) ?_
          refine lv_iload hx hb dX0_tap_153 (lv_at hl 3 rfl) ?_
          refine call_V (As := [.ref (ad (22 + d)), .int 3, .int (mn (((mn (m_X4_all g 0) (m_X3_room g d)) - (((g 0) * (mn (m_X4_all g 0) (m_X3_room g d))) / (m_X4_all g 0))) - (((g 1) * (mn (m_X4_all g 0) (m_X3_room g d))) / (m_X4_all g 0))) (g 2))]) (rest := []) (fun X => X) Fr_id cx (c_X0_tapStuff l G ad _ (d := d) (by omega) 3 (mn (((mn (m_X4_all g 0) (m_X3_room g d)) - (((g 0) * (mn (m_X4_all g 0) (m_X3_room g d))) / (m_X4_all g 0))) - (((g 1) * (mn (m_X4_all g 0) (m_X3_room g d))) / (m_X4_all g 0))) (g 2))) fx_X0_tapStuff m_467 m_469 m_13 ⟨by decide, by decide⟩ wo (at_aisle G _ _ ) rfl rfl rfl hl.1 rfl (Nat.le_of_ble_eq_true rfl) dX0_tap_155 ⟨by decide, by decide⟩ (fun v W1 H locs hp wo => ?_)
          obtain ⟨rfl, rfl⟩ := hp
          refine nrm_v ?_
          refine lv_iconst (v := 1) hx hb dX0_tap_158 (by decide) ?_
          refine tope (y := bi true) rfl ?_
          exact r2_z cx hQ wo dX0_tap_159 (by subst hM; exact ⟨rfl, rfl⟩)
        · skip
          rw [if_neg c_4] at hM
          refine lv_iconst (v := 0) hx hb dX0_tap_41 (by decide) ?_
          refine tope (y := bi false) rfl ?_
          exact r2_z cx hQ wo dX0_tap_42 (by subst hM; exact ⟨rfl, rfl⟩)
abbrev rm_X0_clean : Room := { frames := 1, cells := 0, slots := 0, locals := 21 }
def m_X0_clean (g : St) (d : Nat) : Bool × St :=
  if (g (88 + d)) = 1 then (if (g (96 + d)) = 0 then (if (m_X4_all g (8 + d)) = 0 then (false, g)
      else (true, (m_X4_clear (m_X4_addAll g 15 (8 + d)) (8 + d))))
    else (false, g))
  else if (g (88 + d)) = 14 then (if (g (96 + d)) = 0 then (if (m_X4_all g (8 + d)) = 0 then (false, g)
      else (true, (m_X4_clear (m_X4_addAll g 15 (8 + d)) (8 + d))))
    else (false, g))
  else (false, g)
set_option maxHeartbeats 4000000 in
set_option maxRecDepth 100000 in
theorem c_X0_clean (l : Launch) (G : GG) (ad : Nat → Nat) (g : St) {d : Nat} (hd : d < 4) : Ct l G yX0_clean cX0_clean 3 (some Jvm.ClassFile.FieldType.boolean) rm_X0_clean [.ref (ad 12), .ref (ad (22 + d))] (aw G ad g) (fun rv W1 => rv = some (.int (bi (m_X0_clean g d).1)) ∧ W1 = aw G ad (m_X0_clean g d).2) := by
  refine Ct.mk2 (by decide) (Nat.le_of_ble_eq_true rfl) ?_
  intro p e s m args below meth c A H locs ls Q cx wo hl hQ
  obtain ⟨hx, hb, hml, hr, hlo, hown, hts, hnm, kn, hA⟩ := id cx
  have hl : lv_has ls 3 [(0, .ref (ad 12)), (1, .ref (ad (22 + d)))] := hl
  generalize hM : m_X0_clean g d = M at hQ
  unfold m_X0_clean at hM
  refine lv_aload_n hx hb dX0_clean_0 rfl (lv_at hl 1 rfl) ?_
  refine gf_ladle_place (d := d) (fun X => X) Fr_id cx wo (by omega) m_234 dX0_clean_1 ?_
  refine lv_iconst (v := 1) hx hb dX0_clean_4 (by decide) ?_
  refine lv_icmp_eq (tgt := 17) hx hb dX0_clean_5 (by decide) (fun c_1 => ?_) (fun c_1 => ?_)
  · skip
    rw [if_pos c_1] at hM
    refine lv_iconst (v := 1) hx hb dX0_clean_17 (by decide) ?_
    refine lv_goto (tgt := 22) hx hb dX0_clean_18 (by decide) ?_
    refine lv_istore_n (lv' := [(2, .int 1), (0, .ref (ad 12)), (1, .ref (ad (22 + d)))]) hx hb dX0_clean_22 rfl hl (by decide) rfl (fun ls hl => ?_)
    refine lv_iload_n hx hb dX0_clean_23 rfl (lv_at hl 0 rfl) ?_
    refine lv_if_eq (tgt := 44) hx hb dX0_clean_24 (by decide) (fun h => absurd h (by decide)) (fun _ => ?_)
    refine lv_aload_n hx hb dX0_clean_27 rfl (lv_at hl 2 rfl) ?_
    refine gf_ladle_sort (d := d) (fun X => X) Fr_id cx wo (by omega) m_238 dX0_clean_28 ?_
    refine lv_if_ne (tgt := 44) hx hb dX0_clean_31 (by decide) (fun c_2 => ?_) (fun c_2 => ?_)
    · skip
      rw [if_neg c_2] at hM
      refine lv_iconst (v := 0) hx hb dX0_clean_44 (by decide) ?_
      refine tope (y := bi false) rfl ?_
      exact r2_z cx hQ wo dX0_clean_45 (by subst hM; exact ⟨rfl, rfl⟩)
    · skip
      rw [if_pos c_2] at hM
      refine lv_aload_n hx hb dX0_clean_34 rfl (lv_at hl 2 rfl) ?_
      refine gf_ladle_skull (d := d) (fun X => X) Fr_id cx wo (by omega) m_232 dX0_clean_35 ?_
      refine topv (y := .ref (ad (8 + d))) (congrArg (fun z => Value.ref (ad z)) (by omega)) ?_
      refine call_V (As := []) (rest := []) (fun X => X) Fr_id cx (c_X4_all l G ad _ (t := 8 + d) (by omega) (by omega)) fx_X4_all m_356 m_316 m_317 ⟨by decide, by decide⟩ wo (at_stuff G _ _ (t := 8 + d) (by omega) (by omega)) rfl rfl rfl hl.1 rfl (Nat.le_of_ble_eq_true rfl) dX0_clean_38 ⟨by decide, by decide⟩ (fun v W1 H locs hp wo => ?_)
      obtain ⟨rfl, rfl⟩ := hp
      refine nrm_i ?_
      refine lv_if_ne (tgt := 46) hx hb dX0_clean_41 (by decide) (fun c_3 => ?_) (fun c_3 => ?_)
      · skip
        rw [if_neg c_3] at hM
        refine lv_aload_n hx hb dX0_clean_46 rfl (lv_at hl 1 rfl) ?_
        refine gf_aisle_books (fun X => X) Fr_id cx wo  m_255 dX0_clean_47 ?_
        refine gf_books_cleanedOff (fun X => X) Fr_id cx wo  m_140 dX0_clean_50 ?_
        refine lv_aload_n hx hb dX0_clean_53 rfl (lv_at hl 2 rfl) ?_
        refine gf_ladle_skull (d := d) (fun X => X) Fr_id cx wo (by omega) m_232 dX0_clean_54 ?_
        refine topv (y := .ref (ad (8 + d))) (congrArg (fun z => Value.ref (ad z)) (by omega)) ?_
        refine call_V (As := [.ref (ad (8 + d))]) (rest := []) (fun X => X) Fr_id cx (c_X4_addAll l G ad _ (t := 15) (by omega) (by omega) (t2 := 8 + d) (by omega) (by omega)) fx_X4_addAll m_493 m_494 m_495 ⟨by decide, by decide⟩ wo (at_stuff G _ _ (t := 15) (by omega) (by omega)) rfl rfl rfl hl.1 rfl (Nat.le_of_ble_eq_true rfl) dX0_clean_57 ⟨by decide, by decide⟩ (fun v W1 H locs hp wo => ?_)
        obtain ⟨rfl, rfl⟩ := hp
        refine nrm_v ?_
        refine lv_aload_n hx hb dX0_clean_60 rfl (lv_at hl 2 rfl) ?_
        refine gf_ladle_skull (d := d) (fun X => X) Fr_id cx wo (by omega) m_232 dX0_clean_61 ?_
        refine topv (y := .ref (ad (8 + d))) (congrArg (fun z => Value.ref (ad z)) (by omega)) ?_
        refine call_V (As := []) (rest := []) (fun X => X) Fr_id cx (c_X4_clear l G ad _ (t := 8 + d) (by omega) (by omega)) fx_X4_clear m_519 m_502 m_503 ⟨by decide, by decide⟩ wo (at_stuff G _ _ (t := 8 + d) (by omega) (by omega)) rfl rfl rfl hl.1 rfl (Nat.le_of_ble_eq_true rfl) dX0_clean_64 ⟨by decide, by decide⟩ (fun v W1 H locs hp wo => ?_)
        obtain ⟨rfl, rfl⟩ := hp
        refine nrm_v ?_
        refine lv_iconst (v := 1) hx hb dX0_clean_67 (by decide) ?_
        refine tope (y := bi true) rfl ?_
        exact r2_z cx hQ wo dX0_clean_68 (by subst hM; exact ⟨rfl, rfl⟩)
      · skip
        rw [if_pos c_3] at hM
        refine lv_iconst (v := 0) hx hb dX0_clean_44 (by decide) ?_
        refine tope (y := bi false) rfl ?_
        exact r2_z cx hQ wo dX0_clean_45 (by subst hM; exact ⟨rfl, rfl⟩)
  · skip
    rw [if_neg c_1] at hM
    refine lv_aload_n hx hb dX0_clean_8 rfl (lv_at hl 1 rfl) ?_
    refine gf_ladle_place (d := d) (fun X => X) Fr_id cx wo (by omega) m_234 dX0_clean_9 ?_
    refine lv_bipush (v := 14) hx hb dX0_clean_12 (by decide) ?_
    refine lv_icmp_ne (tgt := 21) hx hb dX0_clean_14 (by decide) (fun c_4 => ?_) (fun c_4 => ?_)
    · skip
      rw [if_neg c_4] at hM
      refine lv_iconst (v := 0) hx hb dX0_clean_21 (by decide) ?_
      refine lv_istore_n (lv' := [(2, .int 0), (0, .ref (ad 12)), (1, .ref (ad (22 + d)))]) hx hb dX0_clean_22 rfl hl (by decide) rfl (fun ls hl => ?_)
      refine lv_iload_n hx hb dX0_clean_23 rfl (lv_at hl 0 rfl) ?_
      refine lv_if_eq (tgt := 44) hx hb dX0_clean_24 (by decide) (fun _ => ?_) (fun h => absurd (show ¬ _ from h) (by decide))
      refine lv_iconst (v := 0) hx hb dX0_clean_44 (by decide) ?_
      refine tope (y := bi false) rfl ?_
      exact r2_z cx hQ wo dX0_clean_45 (by subst hM; exact ⟨rfl, rfl⟩)
    · skip
      rw [if_pos c_4] at hM
      refine lv_iconst (v := 1) hx hb dX0_clean_17 (by decide) ?_
      refine lv_goto (tgt := 22) hx hb dX0_clean_18 (by decide) ?_
      refine lv_istore_n (lv' := [(2, .int 1), (0, .ref (ad 12)), (1, .ref (ad (22 + d)))]) hx hb dX0_clean_22 rfl hl (by decide) rfl (fun ls hl => ?_)
      refine lv_iload_n hx hb dX0_clean_23 rfl (lv_at hl 0 rfl) ?_
      refine lv_if_eq (tgt := 44) hx hb dX0_clean_24 (by decide) (fun h => absurd h (by decide)) (fun _ => ?_)
      refine lv_aload_n hx hb dX0_clean_27 rfl (lv_at hl 2 rfl) ?_
      refine gf_ladle_sort (d := d) (fun X => X) Fr_id cx wo (by omega) m_238 dX0_clean_28 ?_
      refine lv_if_ne (tgt := 44) hx hb dX0_clean_31 (by decide) (fun c_5 => ?_) (fun c_5 => ?_)
      · skip
        rw [if_neg c_5] at hM
        refine lv_iconst (v := 0) hx hb dX0_clean_44 (by decide) ?_
        refine tope (y := bi false) rfl ?_
        exact r2_z cx hQ wo dX0_clean_45 (by subst hM; exact ⟨rfl, rfl⟩)
      · skip
        rw [if_pos c_5] at hM
        refine lv_aload_n hx hb dX0_clean_34 rfl (lv_at hl 2 rfl) ?_
        refine gf_ladle_skull (d := d) (fun X => X) Fr_id cx wo (by omega) m_232 dX0_clean_35 ?_
        refine topv (y := .ref (ad (8 + d))) (congrArg (fun z => Value.ref (ad z)) (by omega)) ?_
        refine call_V (As := []) (rest := []) (fun X => X) Fr_id cx (c_X4_all l G ad _ (t := 8 + d) (by omega) (by omega)) fx_X4_all m_356 m_316 m_317 ⟨by decide, by decide⟩ wo (at_stuff G _ _ (t := 8 + d) (by omega) (by omega)) rfl rfl rfl hl.1 rfl (Nat.le_of_ble_eq_true rfl) dX0_clean_38 ⟨by decide, by decide⟩ (fun v W1 H locs hp wo => ?_)
        obtain ⟨rfl, rfl⟩ := hp
        refine nrm_i ?_
        refine lv_if_ne (tgt := 46) hx hb dX0_clean_41 (by decide) (fun c_6 => ?_) (fun c_6 => ?_)
        · skip
          rw [if_neg c_6] at hM
          refine lv_aload_n hx hb dX0_clean_46 rfl (lv_at hl 1 rfl) ?_
          refine gf_aisle_books (fun X => X) Fr_id cx wo  m_255 dX0_clean_47 ?_
          refine gf_books_cleanedOff (fun X => X) Fr_id cx wo  m_140 dX0_clean_50 ?_
          refine lv_aload_n hx hb dX0_clean_53 rfl (lv_at hl 2 rfl) ?_
          refine gf_ladle_skull (d := d) (fun X => X) Fr_id cx wo (by omega) m_232 dX0_clean_54 ?_
          refine topv (y := .ref (ad (8 + d))) (congrArg (fun z => Value.ref (ad z)) (by omega)) ?_
          refine call_V (As := [.ref (ad (8 + d))]) (rest := []) (fun X => X) Fr_id cx (c_X4_addAll l G ad _ (t := 15) (by omega) (by omega) (t2 := 8 + d) (by omega) (by omega)) fx_X4_addAll m_493 m_494 m_495 ⟨by decide, by decide⟩ wo (at_stuff G _ _ (t := 15) (by omega) (by omega)) rfl rfl rfl hl.1 rfl (Nat.le_of_ble_eq_true rfl) dX0_clean_57 ⟨by decide, by decide⟩ (fun v W1 H locs hp wo => ?_)
          obtain ⟨rfl, rfl⟩ := hp
          refine nrm_v ?_
          refine lv_aload_n hx hb dX0_clean_60 rfl (lv_at hl 2 rfl) ?_
          refine gf_ladle_skull (d := d) (fun X => X) Fr_id cx wo (by omega) m_232 dX0_clean_61 ?_
          refine topv (y := .ref (ad (8 + d))) (congrArg (fun z => Value.ref (ad z)) (by omega)) ?_
          refine call_V (As := []) (rest := []) (fun X => X) Fr_id cx (c_X4_clear l G ad _ (t := 8 + d) (by omega) (by omega)) fx_X4_clear m_519 m_502 m_503 ⟨by decide, by decide⟩ wo (at_stuff G _ _ (t := 8 + d) (by omega) (by omega)) rfl rfl rfl hl.1 rfl (Nat.le_of_ble_eq_true rfl) dX0_clean_64 ⟨by decide, by decide⟩ (fun v W1 H locs hp wo => ?_)
          obtain ⟨rfl, rfl⟩ := hp
          refine nrm_v ?_
          refine lv_iconst (v := 1) hx hb dX0_clean_67 (by decide) ?_
          refine tope (y := bi true) rfl ?_
          exact r2_z cx hQ wo dX0_clean_68 (by subst hM; exact ⟨rfl, rfl⟩)
        · skip
          rw [if_pos c_6] at hM
          refine lv_iconst (v := 0) hx hb dX0_clean_44 (by decide) ?_
          refine tope (y := bi false) rfl ?_
          exact r2_z cx hQ wo dX0_clean_45 (by subst hM; exact ⟨rfl, rfl⟩)
abbrev rm_X0_canPour_n : Room := { frames := 0, cells := 0, slots := 0, locals := 0 }
def m_X0_canPour_n (g : St) (d : Nat) (n : Int32) : Bool :=
  if (g (96 + d)) = 1 then false
  else if (g (96 + d)) = 2 then (if (g (88 + d)) = 2 then true
    else if (g (88 + d)) = 0 then true
    else false)
  else if (g (96 + d)) = 3 then (if (g (88 + d)) = 15 then true
    else false)
  else false
set_option maxHeartbeats 4000000 in
set_option maxRecDepth 100000 in
theorem c_X0_canPour_n (l : Launch) (G : GG) (ad : Nat → Nat) (g : St) {d : Nat} (hd : d < 4) (n : Int32) : Ct l G yX0_canPour cX0_canPour 3 (some Jvm.ClassFile.FieldType.boolean) rm_X0_canPour_n [.ref (ad (22 + d)), .null, .int n] (aw G ad g) (fun rv W1 => rv = some (.int (bi (m_X0_canPour_n g d n))) ∧ W1 = aw G ad g) := by
  refine Ct.mk2 (by decide) (Nat.le_of_ble_eq_true rfl) ?_
  intro p e s m args below meth c A H locs ls Q cx wo hl hQ
  obtain ⟨hx, hb, hml, hr, hlo, hown, hts, hnm, kn, hA⟩ := id cx
  have hl : lv_has ls 3 [(0, .ref (ad (22 + d))), (1, .null), (2, .int n)] := hl
  generalize hM : m_X0_canPour_n g d n = M at hQ
  unfold m_X0_canPour_n at hM
  refine lv_aload_n hx hb dX0_canPour_0 rfl (lv_at hl 0 rfl) ?_
  refine gf_ladle_sort (d := d) (fun X => X) Fr_id cx wo (by omega) m_238 dX0_canPour_1 ?_
  by_cases c_1 : (g (96 + d)) = 1
  · skip
    rw [if_pos c_1] at hM
    refine lv_tableIn (off := 28) (tgt := 32) hx hb dX0_canPour_4 (by rw [c_1]; decide) (by rw [c_1]; decide) (by rw [c_1]; decide) (by decide) ?_
    refine lv_aload_nN hx hb dX0_canPour_32 rfl (lv_at hl 1 rfl) ?_
    refine lv_ifnullN (tgt := 55) hx hb dX0_canPour_33 (by decide) ?_
    refine lv_iconst (v := 0) hx hb dX0_canPour_55 (by decide) ?_
    refine tope (y := bi false) rfl ?_
    exact r2_z cx hQ wo dX0_canPour_56 (by subst hM; exact ⟨rfl, rfl⟩)
  rw [if_neg c_1] at hM
  by_cases c_2 : (g (96 + d)) = 2
  · skip
    rw [if_pos c_2] at hM
    refine lv_tableIn (off := 53) (tgt := 57) hx hb dX0_canPour_4 (by rw [c_2]; decide) (by rw [c_2]; decide) (by rw [c_2]; decide) (by decide) ?_
    refine lv_aload_n hx hb dX0_canPour_57 rfl (lv_at hl 0 rfl) ?_
    refine gf_ladle_place (d := d) (fun X => X) Fr_id cx wo (by omega) m_234 dX0_canPour_58 ?_
    refine lv_iconst (v := 2) hx hb dX0_canPour_61 (by decide) ?_
    refine lv_icmp_eq (tgt := 72) hx hb dX0_canPour_62 (by decide) (fun c_3 => ?_) (fun c_3 => ?_)
    · skip
      rw [if_pos c_3] at hM
      refine lv_iconst (v := 1) hx hb dX0_canPour_72 (by decide) ?_
      refine lv_goto (tgt := 77) hx hb dX0_canPour_73 (by decide) ?_
      refine tope (y := bi true) rfl ?_
      exact r2_z cx hQ wo dX0_canPour_77 (by subst hM; exact ⟨rfl, rfl⟩)
    · skip
      rw [if_neg c_3] at hM
      refine lv_aload_n hx hb dX0_canPour_65 rfl (lv_at hl 0 rfl) ?_
      refine gf_ladle_place (d := d) (fun X => X) Fr_id cx wo (by omega) m_234 dX0_canPour_66 ?_
      refine lv_if_ne (tgt := 76) hx hb dX0_canPour_69 (by decide) (fun c_4 => ?_) (fun c_4 => ?_)
      · skip
        rw [if_neg c_4] at hM
        refine lv_iconst (v := 0) hx hb dX0_canPour_76 (by decide) ?_
        refine tope (y := bi false) rfl ?_
        exact r2_z cx hQ wo dX0_canPour_77 (by subst hM; exact ⟨rfl, rfl⟩)
      · skip
        rw [if_pos c_4] at hM
        refine lv_iconst (v := 1) hx hb dX0_canPour_72 (by decide) ?_
        refine lv_goto (tgt := 77) hx hb dX0_canPour_73 (by decide) ?_
        refine tope (y := bi true) rfl ?_
        exact r2_z cx hQ wo dX0_canPour_77 (by subst hM; exact ⟨rfl, rfl⟩)
  rw [if_neg c_2] at hM
  by_cases c_5 : (g (96 + d)) = 3
  · skip
    rw [if_pos c_5] at hM
    refine lv_tableIn (off := 74) (tgt := 78) hx hb dX0_canPour_4 (by rw [c_5]; decide) (by rw [c_5]; decide) (by rw [c_5]; decide) (by decide) ?_
    refine lv_aload_n hx hb dX0_canPour_78 rfl (lv_at hl 0 rfl) ?_
    refine gf_ladle_place (d := d) (fun X => X) Fr_id cx wo (by omega) m_234 dX0_canPour_79 ?_
    refine lv_bipush (v := 15) hx hb dX0_canPour_82 (by decide) ?_
    refine lv_icmp_ne (tgt := 91) hx hb dX0_canPour_84 (by decide) (fun c_6 => ?_) (fun c_6 => ?_)
    · skip
      rw [if_neg c_6] at hM
      refine lv_iconst (v := 0) hx hb dX0_canPour_91 (by decide) ?_
      refine tope (y := bi false) rfl ?_
      exact r2_z cx hQ wo dX0_canPour_92 (by subst hM; exact ⟨rfl, rfl⟩)
    · skip
      rw [if_pos c_6] at hM
      refine lv_iconst (v := 1) hx hb dX0_canPour_87 (by decide) ?_
      refine lv_goto (tgt := 92) hx hb dX0_canPour_88 (by decide) ?_
      refine tope (y := bi true) rfl ?_
      exact r2_z cx hQ wo dX0_canPour_92 (by subst hM; exact ⟨rfl, rfl⟩)
  rw [if_neg c_5] at hM
  refine lv_tableOut (tgt := 93) hx hb dX0_canPour_4 (by have q0 := lv_neT c_1 (a := 1) rfl; have q1 := lv_neT c_2 (a := 2) rfl; have q2 := lv_neT c_5 (a := 3) rfl; omega) (by decide) ?_
  refine lv_iconst (v := 0) hx hb dX0_canPour_93 (by decide) ?_
  refine tope (y := bi false) rfl ?_
  exact r2_z cx hQ wo dX0_canPour_94 (by subst hM; exact ⟨rfl, rfl⟩)
abbrev rm_X0_canPour_v : Room := { frames := 1, cells := 0, slots := 0, locals := 20 }
def m_X0_canPour_v (g : St) (d : Nat) (v : Nat) (n : Int32) : Bool :=
  if (g (96 + d)) = 1 then (if 300 < ((m_X4_all g (1 + v)) + n) then false
    else true)
  else if (g (96 + d)) = 2 then (if (g (88 + d)) = 2 then true
    else if (g (88 + d)) = 0 then true
    else false)
  else if (g (96 + d)) = 3 then (if (g (88 + d)) = 15 then true
    else false)
  else false
set_option maxHeartbeats 4000000 in
set_option maxRecDepth 100000 in
theorem c_X0_canPour_v (l : Launch) (G : GG) (ad : Nat → Nat) (g : St) {d : Nat} (hd : d < 4) {v : Nat} (hv : v < 3) (n : Int32) : Ct l G yX0_canPour cX0_canPour 3 (some Jvm.ClassFile.FieldType.boolean) rm_X0_canPour_v [.ref (ad (22 + d)), .ref (ad (19 + v)), .int n] (aw G ad g) (fun rv W1 => rv = some (.int (bi (m_X0_canPour_v g d v n))) ∧ W1 = aw G ad g) := by
  refine Ct.mk2 (by decide) (Nat.le_of_ble_eq_true rfl) ?_
  intro p e s m args below meth c A H locs ls Q cx wo hl hQ
  obtain ⟨hx, hb, hml, hr, hlo, hown, hts, hnm, kn, hA⟩ := id cx
  have hl : lv_has ls 3 [(0, .ref (ad (22 + d))), (1, .ref (ad (19 + v))), (2, .int n)] := hl
  generalize hM : m_X0_canPour_v g d v n = M at hQ
  unfold m_X0_canPour_v at hM
  refine lv_aload_n hx hb dX0_canPour_0 rfl (lv_at hl 0 rfl) ?_
  refine gf_ladle_sort (d := d) (fun X => X) Fr_id cx wo (by omega) m_238 dX0_canPour_1 ?_
  by_cases c_1 : (g (96 + d)) = 1
  · skip
    rw [if_pos c_1] at hM
    refine lv_tableIn (off := 28) (tgt := 32) hx hb dX0_canPour_4 (by rw [c_1]; decide) (by rw [c_1]; decide) (by rw [c_1]; decide) (by decide) ?_
    refine lv_aload_n hx hb dX0_canPour_32 rfl (lv_at hl 1 rfl) ?_
    refine lv_ifnull hx hb dX0_canPour_33 ?_
    refine lv_aload_n hx hb dX0_canPour_36 rfl (lv_at hl 1 rfl) ?_
    refine gf_vessel_stuff (v := v) (fun X => X) Fr_id cx wo (by omega) m_198 dX0_canPour_37 ?_
    refine topv (y := .ref (ad (1 + v))) (congrArg (fun z => Value.ref (ad z)) (by omega)) ?_
    refine call_V (As := []) (rest := []) (fun X => X) Fr_id cx (c_X4_all l G ad _ (t := 1 + v) (by omega) (by omega)) fx_X4_all m_356 m_316 m_317 ⟨by decide, by decide⟩ wo (at_stuff G _ _ (t := 1 + v) (by omega) (by omega)) rfl rfl rfl hl.1 rfl (Nat.le_of_ble_eq_true rfl) dX0_canPour_40 ⟨by decide, by decide⟩ (fun v W1 H locs hp wo => ?_)
    obtain ⟨rfl, rfl⟩ := hp
    refine nrm_i ?_
    refine lv_iload_n hx hb dX0_canPour_43 rfl (lv_at hl 2 rfl) ?_
    refine lv_iadd hx hb dX0_canPour_44 ?_
    refine lv_sipush (v := 300) hx hb dX0_canPour_45 (by decide) ?_
    refine lv_icmp_gt (tgt := 55) hx hb dX0_canPour_48 (by decide) (fun c_2 => ?_) (fun c_2 => ?_)
    · skip
      rw [if_pos c_2] at hM
      refine lv_iconst (v := 0) hx hb dX0_canPour_55 (by decide) ?_
      refine tope (y := bi false) rfl ?_
      exact r2_z cx hQ wo dX0_canPour_56 (by subst hM; exact ⟨rfl, rfl⟩)
    · skip
      rw [if_neg c_2] at hM
      refine lv_iconst (v := 1) hx hb dX0_canPour_51 (by decide) ?_
      refine lv_goto (tgt := 56) hx hb dX0_canPour_52 (by decide) ?_
      refine tope (y := bi true) rfl ?_
      exact r2_z cx hQ wo dX0_canPour_56 (by subst hM; exact ⟨rfl, rfl⟩)
  rw [if_neg c_1] at hM
  by_cases c_3 : (g (96 + d)) = 2
  · skip
    rw [if_pos c_3] at hM
    refine lv_tableIn (off := 53) (tgt := 57) hx hb dX0_canPour_4 (by rw [c_3]; decide) (by rw [c_3]; decide) (by rw [c_3]; decide) (by decide) ?_
    refine lv_aload_n hx hb dX0_canPour_57 rfl (lv_at hl 0 rfl) ?_
    refine gf_ladle_place (d := d) (fun X => X) Fr_id cx wo (by omega) m_234 dX0_canPour_58 ?_
    refine lv_iconst (v := 2) hx hb dX0_canPour_61 (by decide) ?_
    refine lv_icmp_eq (tgt := 72) hx hb dX0_canPour_62 (by decide) (fun c_4 => ?_) (fun c_4 => ?_)
    · skip
      rw [if_pos c_4] at hM
      refine lv_iconst (v := 1) hx hb dX0_canPour_72 (by decide) ?_
      refine lv_goto (tgt := 77) hx hb dX0_canPour_73 (by decide) ?_
      refine tope (y := bi true) rfl ?_
      exact r2_z cx hQ wo dX0_canPour_77 (by subst hM; exact ⟨rfl, rfl⟩)
    · skip
      rw [if_neg c_4] at hM
      refine lv_aload_n hx hb dX0_canPour_65 rfl (lv_at hl 0 rfl) ?_
      refine gf_ladle_place (d := d) (fun X => X) Fr_id cx wo (by omega) m_234 dX0_canPour_66 ?_
      refine lv_if_ne (tgt := 76) hx hb dX0_canPour_69 (by decide) (fun c_5 => ?_) (fun c_5 => ?_)
      · skip
        rw [if_neg c_5] at hM
        refine lv_iconst (v := 0) hx hb dX0_canPour_76 (by decide) ?_
        refine tope (y := bi false) rfl ?_
        exact r2_z cx hQ wo dX0_canPour_77 (by subst hM; exact ⟨rfl, rfl⟩)
      · skip
        rw [if_pos c_5] at hM
        refine lv_iconst (v := 1) hx hb dX0_canPour_72 (by decide) ?_
        refine lv_goto (tgt := 77) hx hb dX0_canPour_73 (by decide) ?_
        refine tope (y := bi true) rfl ?_
        exact r2_z cx hQ wo dX0_canPour_77 (by subst hM; exact ⟨rfl, rfl⟩)
  rw [if_neg c_3] at hM
  by_cases c_6 : (g (96 + d)) = 3
  · skip
    rw [if_pos c_6] at hM
    refine lv_tableIn (off := 74) (tgt := 78) hx hb dX0_canPour_4 (by rw [c_6]; decide) (by rw [c_6]; decide) (by rw [c_6]; decide) (by decide) ?_
    refine lv_aload_n hx hb dX0_canPour_78 rfl (lv_at hl 0 rfl) ?_
    refine gf_ladle_place (d := d) (fun X => X) Fr_id cx wo (by omega) m_234 dX0_canPour_79 ?_
    refine lv_bipush (v := 15) hx hb dX0_canPour_82 (by decide) ?_
    refine lv_icmp_ne (tgt := 91) hx hb dX0_canPour_84 (by decide) (fun c_7 => ?_) (fun c_7 => ?_)
    · skip
      rw [if_neg c_7] at hM
      refine lv_iconst (v := 0) hx hb dX0_canPour_91 (by decide) ?_
      refine tope (y := bi false) rfl ?_
      exact r2_z cx hQ wo dX0_canPour_92 (by subst hM; exact ⟨rfl, rfl⟩)
    · skip
      rw [if_pos c_7] at hM
      refine lv_iconst (v := 1) hx hb dX0_canPour_87 (by decide) ?_
      refine lv_goto (tgt := 92) hx hb dX0_canPour_88 (by decide) ?_
      refine tope (y := bi true) rfl ?_
      exact r2_z cx hQ wo dX0_canPour_92 (by subst hM; exact ⟨rfl, rfl⟩)
  rw [if_neg c_6] at hM
  refine lv_tableOut (tgt := 93) hx hb dX0_canPour_4 (by have q0 := lv_neT c_1 (a := 1) rfl; have q1 := lv_neT c_3 (a := 2) rfl; have q2 := lv_neT c_6 (a := 3) rfl; omega) (by decide) ?_
  refine lv_iconst (v := 0) hx hb dX0_canPour_93 (by decide) ?_
  refine tope (y := bi false) rfl ?_
  exact r2_z cx hQ wo dX0_canPour_94 (by subst hM; exact ⟨rfl, rfl⟩)
abbrev rm_X0_skim : Room := { frames := 2, cells := 0, slots := 0, locals := 40 }
def m_X0_skim (g : St) (d : Nat) (v : Nat) : Bool × St :=
  if (g (96 + d)) = 0 then (if 1 ≤ (mn (g (7 + 4 * v)) (m_X3_room g d)) then (true, (upd (upd (upd g (7 + 4 * v) ((g (7 + 4 * v)) - (mn (g (7 + 4 * v)) (m_X3_room g d)))) (19 + 4 * d) ((g (19 + 4 * d)) + (mn (g (7 + 4 * v)) (m_X3_room g d)))) (96 + d) 2))
    else (false, g))
  else if (g (96 + d)) = 2 then (if 1 ≤ (mn (g (7 + 4 * v)) (m_X3_room g d)) then (true, (upd (upd (upd g (7 + 4 * v) ((g (7 + 4 * v)) - (mn (g (7 + 4 * v)) (m_X3_room g d)))) (19 + 4 * d) ((g (19 + 4 * d)) + (mn (g (7 + 4 * v)) (m_X3_room g d)))) (96 + d) 2))
    else (false, g))
  else (false, g)
set_option maxHeartbeats 4000000 in
set_option maxRecDepth 100000 in
theorem c_X0_skim (l : Launch) (G : GG) (ad : Nat → Nat) (g : St) {d : Nat} (hd : d < 4) {v : Nat} (hv : v < 3) : Ct l G yX0_skim cX0_skim 4 (some Jvm.ClassFile.FieldType.boolean) rm_X0_skim [.ref (ad (22 + d)), .ref (ad (19 + v))] (aw G ad g) (fun rv W1 => rv = some (.int (bi (m_X0_skim g d v).1)) ∧ W1 = aw G ad (m_X0_skim g d v).2) := by
  refine Ct.mk2 (by decide) (Nat.le_of_ble_eq_true rfl) ?_
  intro p e s m args below meth c A H locs ls Q cx wo hl hQ
  obtain ⟨hx, hb, hml, hr, hlo, hown, hts, hnm, kn, hA⟩ := id cx
  have hl : lv_has ls 4 [(0, .ref (ad (22 + d))), (1, .ref (ad (19 + v)))] := hl
  generalize hM : m_X0_skim g d v = M at hQ
  unfold m_X0_skim at hM
  refine lv_aload_n hx hb dX0_skim_0 rfl (lv_at hl 0 rfl) ?_
  refine gf_ladle_sort (d := d) (fun X => X) Fr_id cx wo (by omega) m_238 dX0_skim_1 ?_
  refine lv_if_eq (tgt := 15) hx hb dX0_skim_4 (by decide) (fun c_1 => ?_) (fun c_1 => ?_)
  · skip
    rw [if_pos c_1] at hM
    refine lv_iconst (v := 1) hx hb dX0_skim_15 (by decide) ?_
    refine lv_goto (tgt := 20) hx hb dX0_skim_16 (by decide) ?_
    refine lv_istore_n (lv' := [(2, .int 1), (0, .ref (ad (22 + d))), (1, .ref (ad (19 + v)))]) hx hb dX0_skim_20 rfl hl (by decide) rfl (fun ls hl => ?_)
    refine lv_aload_n hx hb dX0_skim_21 rfl (lv_at hl 2 rfl) ?_
    refine gf_vessel_stuff (v := v) (fun X => X) Fr_id cx wo (by omega) m_198 dX0_skim_22 ?_
    refine topv (y := .ref (ad (1 + v))) (congrArg (fun z => Value.ref (ad z)) (by omega)) ?_
    refine gfi_stuff_slag (t := 1 + v) (i := 7 + 4 * v) (fun X => X) Fr_id cx wo (by omega) (by omega) (by omega) m_78 dX0_skim_25 ?_
    refine lv_aload_n hx hb dX0_skim_28 rfl (lv_at hl 1 rfl) ?_
    refine call_V (As := []) (rest := [.int (g (7 + 4 * v))]) (fun X => X) Fr_id cx (c_X3_room l G ad _ (d := d) (by omega)) fx_X3_room m_462 m_463 m_464 ⟨by decide, by decide⟩ wo (at_ladle G _ _ (d := d) (by omega)) rfl rfl rfl hl.1 rfl (Nat.le_of_ble_eq_true rfl) dX0_skim_29 ⟨by decide, by decide⟩ (fun v W1 H locs hp wo => ?_)
    obtain ⟨rfl, rfl⟩ := hp
    refine nrm_i ?_
    refine min_r cx m_378 dX0_skim_32 hl.1 (by decide) (Nat.le_of_ble_eq_true rfl) (by decide) (by decide) ?_
    refine lv_istore_n (lv' := [(3, .int (mn (g (7 + 4 * v)) (m_X3_room g d))), (2, .int 1), (0, .ref (ad (22 + d))), (1, .ref (ad (19 + v)))]) hx hb dX0_skim_35 rfl hl (by decide) rfl (fun ls hl => ?_)
    refine lv_iload_n hx hb dX0_skim_36 rfl (lv_at hl 1 rfl) ?_
    refine lv_if_eq (tgt := 45) hx hb dX0_skim_37 (by decide) (fun h => absurd h (by decide)) (fun _ => ?_)
    refine lv_iload_n hx hb dX0_skim_40 rfl (lv_at hl 0 rfl) ?_
    refine lv_iconst (v := 1) hx hb dX0_skim_41 (by decide) ?_
    refine lv_icmp_ge (tgt := 47) hx hb dX0_skim_42 (by decide) (fun c_2 => ?_) (fun c_2 => ?_)
    · skip
      rw [if_pos c_2] at hM
      refine lv_aload_n hx hb dX0_skim_47 rfl (lv_at hl 3 rfl) ?_
      refine gf_vessel_stuff (v := v) (fun X => X) Fr_id cx wo (by omega) m_198 dX0_skim_48 ?_
      refine topv (y := .ref (ad (1 + v))) (congrArg (fun z => Value.ref (ad z)) (by omega)) ?_
      refine lv_dup hx hb dX0_skim_51 rfl ?_
      refine gfi_stuff_slag (t := 1 + v) (i := 7 + 4 * v) (fun X => X) Fr_id cx wo (by omega) (by omega) (by omega) m_78 dX0_skim_52 ?_
      refine lv_iload_n hx hb dX0_skim_55 rfl (lv_at hl 0 rfl) ?_
      refine lv_isub hx hb dX0_skim_56 ?_
      refine pfi_stuff_slag (t := 1 + v) (i := 7 + 4 * v) (fun X => X) Fr_id cx wo (by omega) (by omega) (by omega) m_78 dX0_skim_57 (fun H locs gz hgz wo => ?_)
      subst hgz
      refine lv_aload_n hx hb dX0_skim_60 rfl (lv_at hl 2 rfl) ?_
      refine gf_ladle_stuff (d := d) (fun X => X) Fr_id cx wo (by omega) m_230 dX0_skim_61 ?_
      refine topv (y := .ref (ad (4 + d))) (congrArg (fun z => Value.ref (ad z)) (by omega)) ?_
      refine lv_dup hx hb dX0_skim_64 rfl ?_
      refine gfi_stuff_slag (t := 4 + d) (i := 19 + 4 * d) (fun X => X) Fr_id cx wo (by omega) (by omega) (by omega) m_78 dX0_skim_65 ?_
      refine tope (y := (g (19 + 4 * d))) (show (upd g (7 + 4 * v) ((g (7 + 4 * v)) - (mn (g (7 + 4 * v)) (m_X3_room g d)))) (19 + 4 * d) = (g (19 + 4 * d)) from (rdN (by omega) rfl)) ?_
      refine lv_iload_n hx hb dX0_skim_68 rfl (lv_at hl 0 rfl) ?_
      refine lv_iadd hx hb dX0_skim_69 ?_
      refine pfi_stuff_slag (t := 4 + d) (i := 19 + 4 * d) (fun X => X) Fr_id cx wo (by omega) (by omega) (by omega) m_78 dX0_skim_70 (fun H locs gz hgz wo => ?_)
      subst hgz
      refine lv_aload_n hx hb dX0_skim_73 rfl (lv_at hl 2 rfl) ?_
      refine lv_iconst (v := 2) hx hb dX0_skim_74 (by decide) ?_
      refine pf_ladle_sort (d := d) (fun X => X) Fr_id cx wo (by omega) m_238 dX0_skim_75 (fun H locs gz hgz wo => ?_)
      subst hgz
      refine lv_iconst (v := 1) hx hb dX0_skim_78 (by decide) ?_
      refine tope (y := bi true) rfl ?_
      exact r2_z cx hQ wo dX0_skim_79 (by subst hM; exact ⟨rfl, rfl⟩)
    · skip
      rw [if_neg c_2] at hM
      refine lv_iconst (v := 0) hx hb dX0_skim_45 (by decide) ?_
      refine tope (y := bi false) rfl ?_
      exact r2_z cx hQ wo dX0_skim_46 (by subst hM; exact ⟨rfl, rfl⟩)
  · skip
    rw [if_neg c_1] at hM
    refine lv_aload_n hx hb dX0_skim_7 rfl (lv_at hl 0 rfl) ?_
    refine gf_ladle_sort (d := d) (fun X => X) Fr_id cx wo (by omega) m_238 dX0_skim_8 ?_
    refine lv_iconst (v := 2) hx hb dX0_skim_11 (by decide) ?_
    refine lv_icmp_ne (tgt := 19) hx hb dX0_skim_12 (by decide) (fun c_3 => ?_) (fun c_3 => ?_)
    · skip
      rw [if_neg c_3] at hM
      refine lv_iconst (v := 0) hx hb dX0_skim_19 (by decide) ?_
      refine lv_istore_n (lv' := [(2, .int 0), (0, .ref (ad (22 + d))), (1, .ref (ad (19 + v)))]) hx hb dX0_skim_20 rfl hl (by decide) rfl (fun ls hl => ?_)
      refine lv_aload_n hx hb dX0_skim_21 rfl (lv_at hl 2 rfl) ?_
      refine gf_vessel_stuff (v := v) (fun X => X) Fr_id cx wo (by omega) m_198 dX0_skim_22 ?_
      refine topv (y := .ref (ad (1 + v))) (congrArg (fun z => Value.ref (ad z)) (by omega)) ?_
      refine gfi_stuff_slag (t := 1 + v) (i := 7 + 4 * v) (fun X => X) Fr_id cx wo (by omega) (by omega) (by omega) m_78 dX0_skim_25 ?_
      refine lv_aload_n hx hb dX0_skim_28 rfl (lv_at hl 1 rfl) ?_
      refine call_V (As := []) (rest := [.int (g (7 + 4 * v))]) (fun X => X) Fr_id cx (c_X3_room l G ad _ (d := d) (by omega)) fx_X3_room m_462 m_463 m_464 ⟨by decide, by decide⟩ wo (at_ladle G _ _ (d := d) (by omega)) rfl rfl rfl hl.1 rfl (Nat.le_of_ble_eq_true rfl) dX0_skim_29 ⟨by decide, by decide⟩ (fun v W1 H locs hp wo => ?_)
      obtain ⟨rfl, rfl⟩ := hp
      refine nrm_i ?_
      refine min_r cx m_378 dX0_skim_32 hl.1 (by decide) (Nat.le_of_ble_eq_true rfl) (by decide) (by decide) ?_
      refine lv_istore_n (lv' := [(3, .int (mn (g (7 + 4 * v)) (m_X3_room g d))), (2, .int 0), (0, .ref (ad (22 + d))), (1, .ref (ad (19 + v)))]) hx hb dX0_skim_35 rfl hl (by decide) rfl (fun ls hl => ?_)
      refine lv_iload_n hx hb dX0_skim_36 rfl (lv_at hl 1 rfl) ?_
      refine lv_if_eq (tgt := 45) hx hb dX0_skim_37 (by decide) (fun _ => ?_) (fun h => absurd (show ¬ _ from h) (by decide))
      refine lv_iconst (v := 0) hx hb dX0_skim_45 (by decide) ?_
      refine tope (y := bi false) rfl ?_
      exact r2_z cx hQ wo dX0_skim_46 (by subst hM; exact ⟨rfl, rfl⟩)
    · skip
      rw [if_pos c_3] at hM
      refine lv_iconst (v := 1) hx hb dX0_skim_15 (by decide) ?_
      refine lv_goto (tgt := 20) hx hb dX0_skim_16 (by decide) ?_
      refine lv_istore_n (lv' := [(2, .int 1), (0, .ref (ad (22 + d))), (1, .ref (ad (19 + v)))]) hx hb dX0_skim_20 rfl hl (by decide) rfl (fun ls hl => ?_)
      refine lv_aload_n hx hb dX0_skim_21 rfl (lv_at hl 2 rfl) ?_
      refine gf_vessel_stuff (v := v) (fun X => X) Fr_id cx wo (by omega) m_198 dX0_skim_22 ?_
      refine topv (y := .ref (ad (1 + v))) (congrArg (fun z => Value.ref (ad z)) (by omega)) ?_
      refine gfi_stuff_slag (t := 1 + v) (i := 7 + 4 * v) (fun X => X) Fr_id cx wo (by omega) (by omega) (by omega) m_78 dX0_skim_25 ?_
      refine lv_aload_n hx hb dX0_skim_28 rfl (lv_at hl 1 rfl) ?_
      refine call_V (As := []) (rest := [.int (g (7 + 4 * v))]) (fun X => X) Fr_id cx (c_X3_room l G ad _ (d := d) (by omega)) fx_X3_room m_462 m_463 m_464 ⟨by decide, by decide⟩ wo (at_ladle G _ _ (d := d) (by omega)) rfl rfl rfl hl.1 rfl (Nat.le_of_ble_eq_true rfl) dX0_skim_29 ⟨by decide, by decide⟩ (fun v W1 H locs hp wo => ?_)
      obtain ⟨rfl, rfl⟩ := hp
      refine nrm_i ?_
      refine min_r cx m_378 dX0_skim_32 hl.1 (by decide) (Nat.le_of_ble_eq_true rfl) (by decide) (by decide) ?_
      refine lv_istore_n (lv' := [(3, .int (mn (g (7 + 4 * v)) (m_X3_room g d))), (2, .int 1), (0, .ref (ad (22 + d))), (1, .ref (ad (19 + v)))]) hx hb dX0_skim_35 rfl hl (by decide) rfl (fun ls hl => ?_)
      refine lv_iload_n hx hb dX0_skim_36 rfl (lv_at hl 1 rfl) ?_
      refine lv_if_eq (tgt := 45) hx hb dX0_skim_37 (by decide) (fun h => absurd h (by decide)) (fun _ => ?_)
      refine lv_iload_n hx hb dX0_skim_40 rfl (lv_at hl 0 rfl) ?_
      refine lv_iconst (v := 1) hx hb dX0_skim_41 (by decide) ?_
      refine lv_icmp_ge (tgt := 47) hx hb dX0_skim_42 (by decide) (fun c_4 => ?_) (fun c_4 => ?_)
      · skip
        rw [if_pos c_4] at hM
        refine lv_aload_n hx hb dX0_skim_47 rfl (lv_at hl 3 rfl) ?_
        refine gf_vessel_stuff (v := v) (fun X => X) Fr_id cx wo (by omega) m_198 dX0_skim_48 ?_
        refine topv (y := .ref (ad (1 + v))) (congrArg (fun z => Value.ref (ad z)) (by omega)) ?_
        refine lv_dup hx hb dX0_skim_51 rfl ?_
        refine gfi_stuff_slag (t := 1 + v) (i := 7 + 4 * v) (fun X => X) Fr_id cx wo (by omega) (by omega) (by omega) m_78 dX0_skim_52 ?_
        refine lv_iload_n hx hb dX0_skim_55 rfl (lv_at hl 0 rfl) ?_
        refine lv_isub hx hb dX0_skim_56 ?_
        refine pfi_stuff_slag (t := 1 + v) (i := 7 + 4 * v) (fun X => X) Fr_id cx wo (by omega) (by omega) (by omega) m_78 dX0_skim_57 (fun H locs gz hgz wo => ?_)
        subst hgz
        refine lv_aload_n hx hb dX0_skim_60 rfl (lv_at hl 2 rfl) ?_
        refine gf_ladle_stuff (d := d) (fun X => X) Fr_id cx wo (by omega) m_230 dX0_skim_61 ?_
        refine topv (y := .ref (ad (4 + d))) (congrArg (fun z => Value.ref (ad z)) (by omega)) ?_
        refine lv_dup hx hb dX0_skim_64 rfl ?_
        refine gfi_stuff_slag (t := 4 + d) (i := 19 + 4 * d) (fun X => X) Fr_id cx wo (by omega) (by omega) (by omega) m_78 dX0_skim_65 ?_
        refine tope (y := (g (19 + 4 * d))) (show (upd g (7 + 4 * v) ((g (7 + 4 * v)) - (mn (g (7 + 4 * v)) (m_X3_room g d)))) (19 + 4 * d) = (g (19 + 4 * d)) from (rdN (by omega) rfl)) ?_
        refine lv_iload_n hx hb dX0_skim_68 rfl (lv_at hl 0 rfl) ?_
        refine lv_iadd hx hb dX0_skim_69 ?_
        refine pfi_stuff_slag (t := 4 + d) (i := 19 + 4 * d) (fun X => X) Fr_id cx wo (by omega) (by omega) (by omega) m_78 dX0_skim_70 (fun H locs gz hgz wo => ?_)
        subst hgz
        refine lv_aload_n hx hb dX0_skim_73 rfl (lv_at hl 2 rfl) ?_
        refine lv_iconst (v := 2) hx hb dX0_skim_74 (by decide) ?_
        refine pf_ladle_sort (d := d) (fun X => X) Fr_id cx wo (by omega) m_238 dX0_skim_75 (fun H locs gz hgz wo => ?_)
        subst hgz
        refine lv_iconst (v := 1) hx hb dX0_skim_78 (by decide) ?_
        refine tope (y := bi true) rfl ?_
        exact r2_z cx hQ wo dX0_skim_79 (by subst hM; exact ⟨rfl, rfl⟩)
      · skip
        rw [if_neg c_4] at hM
        refine lv_iconst (v := 0) hx hb dX0_skim_45 (by decide) ?_
        refine tope (y := bi false) rfl ?_
        exact r2_z cx hQ wo dX0_skim_46 (by subst hM; exact ⟨rfl, rfl⟩)
abbrev rm_X0_draw : Room := { frames := 2, cells := 0, slots := 0, locals := 40 }
def m_X0_draw (g : St) (d : Nat) (v : Nat) : Bool × St :=
  if (g (79 + v)) = 0 then (if (m_X5_holdsCopperAlone g v) = true then (if (g (96 + d)) = 0 then (true, (upd (upd (upd g (4 + 4 * v) ((g (4 + 4 * v)) - (mn (g (4 + 4 * v)) (m_X3_room g d)))) (16 + 4 * d) ((g (16 + 4 * d)) + (mn (g (4 + 4 * v)) (m_X3_room g d)))) (96 + d) 3))
      else (false, g))
    else (false, g))
  else (false, g)
set_option maxHeartbeats 4000000 in
set_option maxRecDepth 100000 in
theorem c_X0_draw (l : Launch) (G : GG) (ad : Nat → Nat) (g : St) {d : Nat} (hd : d < 4) {v : Nat} (hv : v < 3) : Ct l G yX0_draw cX0_draw 3 (some Jvm.ClassFile.FieldType.boolean) rm_X0_draw [.ref (ad (22 + d)), .ref (ad (19 + v))] (aw G ad g) (fun rv W1 => rv = some (.int (bi (m_X0_draw g d v).1)) ∧ W1 = aw G ad (m_X0_draw g d v).2) := by
  refine Ct.mk2 (by decide) (Nat.le_of_ble_eq_true rfl) ?_
  intro p e s m args below meth c A H locs ls Q cx wo hl hQ
  obtain ⟨hx, hb, hml, hr, hlo, hown, hts, hnm, kn, hA⟩ := id cx
  have hl : lv_has ls 3 [(0, .ref (ad (22 + d))), (1, .ref (ad (19 + v)))] := hl
  generalize hM : m_X0_draw g d v = M at hQ
  unfold m_X0_draw at hM
  refine lv_aload_n hx hb dX0_draw_0 rfl (lv_at hl 1 rfl) ?_
  refine gf_vessel_isBlown (v := v) (fun X => X) Fr_id cx wo (by omega) m_208 dX0_draw_1 ?_
  refine lv_if_ne (tgt := 21) hx hb dX0_draw_4 (by decide) (fun c_1 => ?_) (fun c_1 => ?_)
  · skip
    rw [if_neg c_1] at hM
    refine lv_iconst (v := 0) hx hb dX0_draw_21 (by decide) ?_
    refine tope (y := bi false) rfl ?_
    exact r2_z cx hQ wo dX0_draw_22 (by subst hM; exact ⟨rfl, rfl⟩)
  · skip
    rw [if_pos c_1] at hM
    refine lv_aload_n hx hb dX0_draw_7 rfl (lv_at hl 1 rfl) ?_
    refine call_V (As := []) (rest := []) (fun X => X) Fr_id cx (c_X5_holdsCopperAlone l G ad _ (v := v) (by omega)) fx_X5_holdsCopperAlone m_511 m_512 m_513 ⟨by decide, by decide⟩ wo (at_vessel G _ _ (v := v) (by omega)) rfl rfl rfl hl.1 rfl (Nat.le_of_ble_eq_true rfl) dX0_draw_8 ⟨by decide, by decide⟩ (fun v W1 H locs hp wo => ?_)
    obtain ⟨rfl, rfl⟩ := hp
    refine nrm_i ?_
    refine if_eq_b (tgt := 21) hx hb dX0_draw_11 (by decide) (fun c_2 => ?_) (fun c_2 => ?_)
    · skip
      rw [if_neg c_2] at hM
      refine lv_iconst (v := 0) hx hb dX0_draw_21 (by decide) ?_
      refine tope (y := bi false) rfl ?_
      exact r2_z cx hQ wo dX0_draw_22 (by subst hM; exact ⟨rfl, rfl⟩)
    · skip
      rw [if_pos c_2] at hM
      refine lv_aload_n hx hb dX0_draw_14 rfl (lv_at hl 0 rfl) ?_
      refine gf_ladle_sort (d := d) (fun X => X) Fr_id cx wo (by omega) m_238 dX0_draw_15 ?_
      refine lv_if_eq (tgt := 23) hx hb dX0_draw_18 (by decide) (fun c_3 => ?_) (fun c_3 => ?_)
      · skip
        rw [if_pos c_3] at hM
        refine lv_aload_n hx hb dX0_draw_23 rfl (lv_at hl 1 rfl) ?_
        refine gf_vessel_stuff (v := v) (fun X => X) Fr_id cx wo (by omega) m_198 dX0_draw_24 ?_
        refine topv (y := .ref (ad (1 + v))) (congrArg (fun z => Value.ref (ad z)) (by omega)) ?_
        refine gfi_stuff_copper (t := 1 + v) (i := 4 + 4 * v) (fun X => X) Fr_id cx wo (by omega) (by omega) (by omega) m_71 dX0_draw_27 ?_
        refine lv_aload_n hx hb dX0_draw_30 rfl (lv_at hl 0 rfl) ?_
        refine call_V (As := []) (rest := [.int (g (4 + 4 * v))]) (fun X => X) Fr_id cx (c_X3_room l G ad _ (d := d) (by omega)) fx_X3_room m_462 m_463 m_464 ⟨by decide, by decide⟩ wo (at_ladle G _ _ (d := d) (by omega)) rfl rfl rfl hl.1 rfl (Nat.le_of_ble_eq_true rfl) dX0_draw_31 ⟨by decide, by decide⟩ (fun v W1 H locs hp wo => ?_)
        obtain ⟨rfl, rfl⟩ := hp
        refine nrm_i ?_
        refine min_r cx m_378 dX0_draw_34 hl.1 (by decide) (Nat.le_of_ble_eq_true rfl) (by decide) (by decide) ?_
        refine lv_istore_n (lv' := [(2, .int (mn (g (4 + 4 * v)) (m_X3_room g d))), (0, .ref (ad (22 + d))), (1, .ref (ad (19 + v)))]) hx hb dX0_draw_37 rfl hl (by decide) rfl (fun ls hl => ?_)
        refine lv_aload_n hx hb dX0_draw_38 rfl (lv_at hl 2 rfl) ?_
        refine gf_vessel_stuff (v := v) (fun X => X) Fr_id cx wo (by omega) m_198 dX0_draw_39 ?_
        refine topv (y := .ref (ad (1 + v))) (congrArg (fun z => Value.ref (ad z)) (by omega)) ?_
        refine lv_dup hx hb dX0_draw_42 rfl ?_
        refine gfi_stuff_copper (t := 1 + v) (i := 4 + 4 * v) (fun X => X) Fr_id cx wo (by omega) (by omega) (by omega) m_71 dX0_draw_43 ?_
        refine lv_iload_n hx hb dX0_draw_46 rfl (lv_at hl 0 rfl) ?_
        refine lv_isub hx hb dX0_draw_47 ?_
        refine pfi_stuff_copper (t := 1 + v) (i := 4 + 4 * v) (fun X => X) Fr_id cx wo (by omega) (by omega) (by omega) m_71 dX0_draw_48 (fun H locs gz hgz wo => ?_)
        subst hgz
        refine lv_aload_n hx hb dX0_draw_51 rfl (lv_at hl 1 rfl) ?_
        refine gf_ladle_stuff (d := d) (fun X => X) Fr_id cx wo (by omega) m_230 dX0_draw_52 ?_
        refine topv (y := .ref (ad (4 + d))) (congrArg (fun z => Value.ref (ad z)) (by omega)) ?_
        refine lv_dup hx hb dX0_draw_55 rfl ?_
        refine gfi_stuff_copper (t := 4 + d) (i := 16 + 4 * d) (fun X => X) Fr_id cx wo (by omega) (by omega) (by omega) m_71 dX0_draw_56 ?_
        refine tope (y := (g (16 + 4 * d))) (show (upd g (4 + 4 * v) ((g (4 + 4 * v)) - (mn (g (4 + 4 * v)) (m_X3_room g d)))) (16 + 4 * d) = (g (16 + 4 * d)) from (rdN (by omega) rfl)) ?_
        refine lv_iload_n hx hb dX0_draw_59 rfl (lv_at hl 0 rfl) ?_
        refine lv_iadd hx hb dX0_draw_60 ?_
        refine pfi_stuff_copper (t := 4 + d) (i := 16 + 4 * d) (fun X => X) Fr_id cx wo (by omega) (by omega) (by omega) m_71 dX0_draw_61 (fun H locs gz hgz wo => ?_)
        subst hgz
        refine lv_aload_n hx hb dX0_draw_64 rfl (lv_at hl 1 rfl) ?_
        refine lv_iconst (v := 3) hx hb dX0_draw_65 (by decide) ?_
        refine pf_ladle_sort (d := d) (fun X => X) Fr_id cx wo (by omega) m_238 dX0_draw_66 (fun H locs gz hgz wo => ?_)
        subst hgz
        refine lv_iconst (v := 1) hx hb dX0_draw_69 (by decide) ?_
        refine tope (y := bi true) rfl ?_
        exact r2_z cx hQ wo dX0_draw_70 (by subst hM; exact ⟨rfl, rfl⟩)
      · skip
        rw [if_neg c_3] at hM
        refine lv_iconst (v := 0) hx hb dX0_draw_21 (by decide) ?_
        refine tope (y := bi false) rfl ?_
        exact r2_z cx hQ wo dX0_draw_22 (by subst hM; exact ⟨rfl, rfl⟩)
abbrev rm_X0_pour_n : Room := { frames := 2, cells := 0, slots := 0, locals := 46 }
def m_X0_pour_n (g : St) (d : Nat) : Bool × St :=
  if (m_X0_canPour_n g d ((m_X4_all g (4 + d)) - (m_X3_stuffThatFreezes g d))) = true then (if ((m_X3_freeze g d (m_X3_stuffThatFreezes g d)) (88 + d)) = 2 then (true, (m_X3_empty (m_X4_addAll (m_X3_freeze g d (m_X3_stuffThatFreezes g d)) 13 (4 + d)) d))
    else if ((m_X3_freeze g d (m_X3_stuffThatFreezes g d)) (88 + d)) = 0 then (true, (m_X3_empty (m_X4_addAll (m_X3_freeze g d (m_X3_stuffThatFreezes g d)) 14 (4 + d)) d))
    else (true, (m_X3_empty (upd (m_X3_freeze g d (m_X3_stuffThatFreezes g d)) 48 (((m_X3_freeze g d (m_X3_stuffThatFreezes g d)) 48) + ((m_X3_freeze g d (m_X3_stuffThatFreezes g d)) (16 + 4 * d)))) d)))
  else (false, g)
set_option maxHeartbeats 4000000 in
set_option maxRecDepth 100000 in
theorem c_X0_pour_n (l : Launch) (G : GG) (ad : Nat → Nat) (g : St) {d : Nat} (hd : d < 4) : Ct l G yX0_pour cX0_pour 5 (some Jvm.ClassFile.FieldType.boolean) rm_X0_pour_n [.ref (ad 12), .ref (ad (22 + d)), .null] (aw G ad g) (fun rv W1 => rv = some (.int (bi (m_X0_pour_n g d).1)) ∧ W1 = aw G ad (m_X0_pour_n g d).2) := by
  refine Ct.mk2 (by decide) (Nat.le_of_ble_eq_true rfl) ?_
  intro p e s m args below meth c A H locs ls Q cx wo hl hQ
  obtain ⟨hx, hb, hml, hr, hlo, hown, hts, hnm, kn, hA⟩ := id cx
  have hl : lv_has ls 5 [(0, .ref (ad 12)), (1, .ref (ad (22 + d))), (2, .null)] := hl
  generalize hM : m_X0_pour_n g d = M at hQ
  unfold m_X0_pour_n at hM
  refine lv_aload_n hx hb dX0_pour_0 rfl (lv_at hl 1 rfl) ?_
  refine call_V (As := []) (rest := []) (fun X => X) Fr_id cx (c_X3_stuffThatFreezes l G ad _ (d := d) (by omega)) fx_X3_stuffThatFreezes m_475 m_476 m_477 ⟨by decide, by decide⟩ wo (at_ladle G _ _ (d := d) (by omega)) rfl rfl rfl hl.1 rfl (Nat.le_of_ble_eq_true rfl) dX0_pour_1 ⟨by decide, by decide⟩ (fun v W1 H locs hp wo => ?_)
  obtain ⟨rfl, rfl⟩ := hp
  refine nrm_i ?_
  refine lv_istore_n (lv' := [(3, .int (m_X3_stuffThatFreezes g d)), (0, .ref (ad 12)), (1, .ref (ad (22 + d))), (2, .null)]) hx hb dX0_pour_4 rfl hl (by decide) rfl (fun ls hl => ?_)
  refine lv_aload_n hx hb dX0_pour_5 rfl (lv_at hl 2 rfl) ?_
  refine gf_ladle_stuff (d := d) (fun X => X) Fr_id cx wo (by omega) m_230 dX0_pour_6 ?_
  refine topv (y := .ref (ad (4 + d))) (congrArg (fun z => Value.ref (ad z)) (by omega)) ?_
  refine call_V (As := []) (rest := []) (fun X => X) Fr_id cx (c_X4_all l G ad _ (t := 4 + d) (by omega) (by omega)) fx_X4_all m_356 m_316 m_317 ⟨by decide, by decide⟩ wo (at_stuff G _ _ (t := 4 + d) (by omega) (by omega)) rfl rfl rfl hl.1 rfl (Nat.le_of_ble_eq_true rfl) dX0_pour_9 ⟨by decide, by decide⟩ (fun v W1 H locs hp wo => ?_)
  obtain ⟨rfl, rfl⟩ := hp
  refine nrm_i ?_
  refine lv_iload_n hx hb dX0_pour_12 rfl (lv_at hl 0 rfl) ?_
  refine lv_isub hx hb dX0_pour_13 ?_
  refine lv_istore (lv' := [(4, .int ((m_X4_all g (4 + d)) - (m_X3_stuffThatFreezes g d))), (3, .int (m_X3_stuffThatFreezes g d)), (0, .ref (ad 12)), (1, .ref (ad (22 + d))), (2, .null)]) hx hb dX0_pour_14 hl (by decide) rfl (fun ls hl => ?_)
  refine lv_aload_n hx hb dX0_pour_16 rfl (lv_at hl 3 rfl) ?_
  refine lv_aload_nN hx hb dX0_pour_17 rfl (lv_at hl 4 rfl) ?_
  refine lv_iload hx hb dX0_pour_18 (lv_at hl 0 rfl) ?_
  refine call_S (As := [.ref (ad (22 + d)), .null, .int ((m_X4_all g (4 + d)) - (m_X3_stuffThatFreezes g d))]) (rest := []) (fun X => X) Fr_id cx (c_X0_canPour_n l G ad _ (d := d) (by omega) ((m_X4_all g (4 + d)) - (m_X3_stuffThatFreezes g d))) fx_X0_canPour m_480 m_481 ⟨by decide, by decide⟩ wo rfl hl.1 rfl (Nat.le_of_ble_eq_true rfl) dX0_pour_20 ⟨by decide, by decide⟩ (fun v W1 H locs hp wo => ?_)
  obtain ⟨rfl, rfl⟩ := hp
  refine nrm_i ?_
  refine if_ne_b (tgt := 28) hx hb dX0_pour_23 (by decide) (fun c_1 => ?_) (fun c_1 => ?_)
  · skip
    rw [if_pos c_1] at hM
    refine lv_aload_n hx hb dX0_pour_28 rfl (lv_at hl 3 rfl) ?_
    refine lv_iload_n hx hb dX0_pour_29 rfl (lv_at hl 1 rfl) ?_
    refine call_V (As := [.int (m_X3_stuffThatFreezes g d)]) (rest := []) (fun X => X) Fr_id cx (c_X3_freeze l G ad _ (d := d) (by omega) (m_X3_stuffThatFreezes g d)) fx_X3_freeze m_483 m_484 m_485 ⟨by decide, by decide⟩ wo (at_ladle G _ _ (d := d) (by omega)) rfl rfl rfl hl.1 rfl (Nat.le_of_ble_eq_true rfl) dX0_pour_30 ⟨by decide, by decide⟩ (fun v W1 H locs hp wo => ?_)
    obtain ⟨rfl, rfl⟩ := hp
    refine nrm_v ?_
    refine lv_aload_nN hx hb dX0_pour_33 rfl (lv_at hl 4 rfl) ?_
    refine lv_ifnullN (tgt := 60) hx hb dX0_pour_34 (by decide) ?_
    refine lv_aload_n hx hb dX0_pour_60 rfl (lv_at hl 3 rfl) ?_
    refine gf_ladle_place (d := d) (fun X => X) Fr_id cx wo (by omega) m_234 dX0_pour_61 ?_
    refine lv_iconst (v := 2) hx hb dX0_pour_64 (by decide) ?_
    refine lv_icmp_ne (tgt := 85) hx hb dX0_pour_65 (by decide) (fun c_2 => ?_) (fun c_2 => ?_)
    · skip
      rw [if_neg c_2] at hM
      refine lv_aload_n hx hb dX0_pour_85 rfl (lv_at hl 3 rfl) ?_
      refine gf_ladle_place (d := d) (fun X => X) Fr_id cx wo (by omega) m_234 dX0_pour_86 ?_
      refine lv_if_ne (tgt := 109) hx hb dX0_pour_89 (by decide) (fun c_3 => ?_) (fun c_3 => ?_)
      · skip
        rw [if_neg c_3] at hM
        refine lv_aload_n hx hb dX0_pour_109 rfl (lv_at hl 2 rfl) ?_
        refine lv_dup hx hb dX0_pour_110 rfl ?_
        refine gf_aisle_wheelCopper (fun X => X) Fr_id cx wo  m_257 dX0_pour_111 ?_
        refine lv_aload_n hx hb dX0_pour_114 rfl (lv_at hl 3 rfl) ?_
        refine gf_ladle_stuff (d := d) (fun X => X) Fr_id cx wo (by omega) m_230 dX0_pour_115 ?_
        refine topv (y := .ref (ad (4 + d))) (congrArg (fun z => Value.ref (ad z)) (by omega)) ?_
        refine gfi_stuff_copper (t := 4 + d) (i := 16 + 4 * d) (fun X => X) Fr_id cx wo (by omega) (by omega) (by omega) m_71 dX0_pour_118 ?_
        refine lv_iadd hx hb dX0_pour_121 ?_
        refine pf_aisle_wheelCopper (fun X => X) Fr_id cx wo  m_257 dX0_pour_122 (fun H locs gz hgz wo => ?_)
        subst hgz
        refine lv_aload_n hx hb dX0_pour_125 rfl (lv_at hl 3 rfl) ?_
        refine call_V (As := []) (rest := []) (fun X => X) Fr_id cx (c_X3_empty l G ad _ (d := d) (by omega)) fx_X3_empty m_497 m_498 m_499 ⟨by decide, by decide⟩ wo (at_ladle G _ _ (d := d) (by omega)) rfl rfl rfl hl.1 rfl (Nat.le_of_ble_eq_true rfl) dX0_pour_126 ⟨by decide, by decide⟩ (fun v W1 H locs hp wo => ?_)
        obtain ⟨rfl, rfl⟩ := hp
        refine nrm_v ?_
        refine lv_iconst (v := 1) hx hb dX0_pour_129 (by decide) ?_
        refine tope (y := bi true) rfl ?_
        exact r2_z cx hQ wo dX0_pour_130 (by subst hM; exact ⟨rfl, rfl⟩)
      · skip
        rw [if_pos c_3] at hM
        refine lv_aload_n hx hb dX0_pour_92 rfl (lv_at hl 2 rfl) ?_
        refine gf_aisle_books (fun X => X) Fr_id cx wo  m_255 dX0_pour_93 ?_
        refine gf_books_givenBack (fun X => X) Fr_id cx wo  m_138 dX0_pour_96 ?_
        refine lv_aload_n hx hb dX0_pour_99 rfl (lv_at hl 3 rfl) ?_
        refine gf_ladle_stuff (d := d) (fun X => X) Fr_id cx wo (by omega) m_230 dX0_pour_100 ?_
        refine topv (y := .ref (ad (4 + d))) (congrArg (fun z => Value.ref (ad z)) (by omega)) ?_
        refine call_V (As := [.ref (ad (4 + d))]) (rest := []) (fun X => X) Fr_id cx (c_X4_addAll l G ad _ (t := 14) (by omega) (by omega) (t2 := 4 + d) (by omega) (by omega)) fx_X4_addAll m_493 m_494 m_495 ⟨by decide, by decide⟩ wo (at_stuff G _ _ (t := 14) (by omega) (by omega)) rfl rfl rfl hl.1 rfl (Nat.le_of_ble_eq_true rfl) dX0_pour_103 ⟨by decide, by decide⟩ (fun v W1 H locs hp wo => ?_)
        obtain ⟨rfl, rfl⟩ := hp
        refine nrm_v ?_
        refine lv_goto (tgt := 125) hx hb dX0_pour_106 (by decide) ?_
        refine lv_aload_n hx hb dX0_pour_125 rfl (lv_at hl 3 rfl) ?_
        refine call_V (As := []) (rest := []) (fun X => X) Fr_id cx (c_X3_empty l G ad _ (d := d) (by omega)) fx_X3_empty m_497 m_498 m_499 ⟨by decide, by decide⟩ wo (at_ladle G _ _ (d := d) (by omega)) rfl rfl rfl hl.1 rfl (Nat.le_of_ble_eq_true rfl) dX0_pour_126 ⟨by decide, by decide⟩ (fun v W1 H locs hp wo => ?_)
        obtain ⟨rfl, rfl⟩ := hp
        refine nrm_v ?_
        refine lv_iconst (v := 1) hx hb dX0_pour_129 (by decide) ?_
        refine tope (y := bi true) rfl ?_
        exact r2_z cx hQ wo dX0_pour_130 (by subst hM; exact ⟨rfl, rfl⟩)
    · skip
      rw [if_pos c_2] at hM
      refine lv_aload_n hx hb dX0_pour_68 rfl (lv_at hl 2 rfl) ?_
      refine gf_aisle_books (fun X => X) Fr_id cx wo  m_255 dX0_pour_69 ?_
      refine gf_books_pot (fun X => X) Fr_id cx wo  m_136 dX0_pour_72 ?_
      refine lv_aload_n hx hb dX0_pour_75 rfl (lv_at hl 3 rfl) ?_
      refine gf_ladle_stuff (d := d) (fun X => X) Fr_id cx wo (by omega) m_230 dX0_pour_76 ?_
      refine topv (y := .ref (ad (4 + d))) (congrArg (fun z => Value.ref (ad z)) (by omega)) ?_
      refine call_V (As := [.ref (ad (4 + d))]) (rest := []) (fun X => X) Fr_id cx (c_X4_addAll l G ad _ (t := 13) (by omega) (by omega) (t2 := 4 + d) (by omega) (by omega)) fx_X4_addAll m_493 m_494 m_495 ⟨by decide, by decide⟩ wo (at_stuff G _ _ (t := 13) (by omega) (by omega)) rfl rfl rfl hl.1 rfl (Nat.le_of_ble_eq_true rfl) dX0_pour_79 ⟨by decide, by decide⟩ (fun v W1 H locs hp wo => ?_)
      obtain ⟨rfl, rfl⟩ := hp
      refine nrm_v ?_
      refine lv_goto (tgt := 125) hx hb dX0_pour_82 (by decide) ?_
      refine lv_aload_n hx hb dX0_pour_125 rfl (lv_at hl 3 rfl) ?_
      refine call_V (As := []) (rest := []) (fun X => X) Fr_id cx (c_X3_empty l G ad _ (d := d) (by omega)) fx_X3_empty m_497 m_498 m_499 ⟨by decide, by decide⟩ wo (at_ladle G _ _ (d := d) (by omega)) rfl rfl rfl hl.1 rfl (Nat.le_of_ble_eq_true rfl) dX0_pour_126 ⟨by decide, by decide⟩ (fun v W1 H locs hp wo => ?_)
      obtain ⟨rfl, rfl⟩ := hp
      refine nrm_v ?_
      refine lv_iconst (v := 1) hx hb dX0_pour_129 (by decide) ?_
      refine tope (y := bi true) rfl ?_
      exact r2_z cx hQ wo dX0_pour_130 (by subst hM; exact ⟨rfl, rfl⟩)
  · skip
    rw [if_neg c_1] at hM
    refine lv_iconst (v := 0) hx hb dX0_pour_26 (by decide) ?_
    refine tope (y := bi false) rfl ?_
    exact r2_z cx hQ wo dX0_pour_27 (by subst hM; exact ⟨rfl, rfl⟩)
abbrev rm_X0_pour_v : Room := { frames := 2, cells := 0, slots := 0, locals := 46 }
def m_X0_pour_v (g : St) (d : Nat) (v : Nat) : Bool × St :=
  if (m_X0_canPour_v g d v ((m_X4_all g (4 + d)) - (m_X3_stuffThatFreezes g d))) = true then (true, (m_X3_empty (m_X4_addAll (m_X5_mixHeat (m_X3_freeze g d (m_X3_stuffThatFreezes g d)) v 1150 ((m_X4_all g (4 + d)) - (m_X3_stuffThatFreezes g d))) (1 + v) (4 + d)) d))
  else (false, g)
set_option maxHeartbeats 4000000 in
set_option maxRecDepth 100000 in
theorem c_X0_pour_v (l : Launch) (G : GG) (ad : Nat → Nat) (g : St) {d : Nat} (hd : d < 4) {v : Nat} (hv : v < 3) : Ct l G yX0_pour cX0_pour 5 (some Jvm.ClassFile.FieldType.boolean) rm_X0_pour_v [.ref (ad 12), .ref (ad (22 + d)), .ref (ad (19 + v))] (aw G ad g) (fun rv W1 => rv = some (.int (bi (m_X0_pour_v g d v).1)) ∧ W1 = aw G ad (m_X0_pour_v g d v).2) := by
  refine Ct.mk2 (by decide) (Nat.le_of_ble_eq_true rfl) ?_
  intro p e s m args below meth c A H locs ls Q cx wo hl hQ
  obtain ⟨hx, hb, hml, hr, hlo, hown, hts, hnm, kn, hA⟩ := id cx
  have hl : lv_has ls 5 [(0, .ref (ad 12)), (1, .ref (ad (22 + d))), (2, .ref (ad (19 + v)))] := hl
  generalize hM : m_X0_pour_v g d v = M at hQ
  unfold m_X0_pour_v at hM
  refine lv_aload_n hx hb dX0_pour_0 rfl (lv_at hl 1 rfl) ?_
  refine call_V (As := []) (rest := []) (fun X => X) Fr_id cx (c_X3_stuffThatFreezes l G ad _ (d := d) (by omega)) fx_X3_stuffThatFreezes m_475 m_476 m_477 ⟨by decide, by decide⟩ wo (at_ladle G _ _ (d := d) (by omega)) rfl rfl rfl hl.1 rfl (Nat.le_of_ble_eq_true rfl) dX0_pour_1 ⟨by decide, by decide⟩ (fun v W1 H locs hp wo => ?_)
  obtain ⟨rfl, rfl⟩ := hp
  refine nrm_i ?_
  refine lv_istore_n (lv' := [(3, .int (m_X3_stuffThatFreezes g d)), (0, .ref (ad 12)), (1, .ref (ad (22 + d))), (2, .ref (ad (19 + v)))]) hx hb dX0_pour_4 rfl hl (by decide) rfl (fun ls hl => ?_)
  refine lv_aload_n hx hb dX0_pour_5 rfl (lv_at hl 2 rfl) ?_
  refine gf_ladle_stuff (d := d) (fun X => X) Fr_id cx wo (by omega) m_230 dX0_pour_6 ?_
  refine topv (y := .ref (ad (4 + d))) (congrArg (fun z => Value.ref (ad z)) (by omega)) ?_
  refine call_V (As := []) (rest := []) (fun X => X) Fr_id cx (c_X4_all l G ad _ (t := 4 + d) (by omega) (by omega)) fx_X4_all m_356 m_316 m_317 ⟨by decide, by decide⟩ wo (at_stuff G _ _ (t := 4 + d) (by omega) (by omega)) rfl rfl rfl hl.1 rfl (Nat.le_of_ble_eq_true rfl) dX0_pour_9 ⟨by decide, by decide⟩ (fun v W1 H locs hp wo => ?_)
  obtain ⟨rfl, rfl⟩ := hp
  refine nrm_i ?_
  refine lv_iload_n hx hb dX0_pour_12 rfl (lv_at hl 0 rfl) ?_
  refine lv_isub hx hb dX0_pour_13 ?_
  refine lv_istore (lv' := [(4, .int ((m_X4_all g (4 + d)) - (m_X3_stuffThatFreezes g d))), (3, .int (m_X3_stuffThatFreezes g d)), (0, .ref (ad 12)), (1, .ref (ad (22 + d))), (2, .ref (ad (19 + v)))]) hx hb dX0_pour_14 hl (by decide) rfl (fun ls hl => ?_)
  refine lv_aload_n hx hb dX0_pour_16 rfl (lv_at hl 3 rfl) ?_
  refine lv_aload_n hx hb dX0_pour_17 rfl (lv_at hl 4 rfl) ?_
  refine lv_iload hx hb dX0_pour_18 (lv_at hl 0 rfl) ?_
  refine call_S (As := [.ref (ad (22 + d)), .ref (ad (19 + v)), .int ((m_X4_all g (4 + d)) - (m_X3_stuffThatFreezes g d))]) (rest := []) (fun X => X) Fr_id cx (c_X0_canPour_v l G ad _ (d := d) (by omega) (v := v) (by omega) ((m_X4_all g (4 + d)) - (m_X3_stuffThatFreezes g d))) fx_X0_canPour m_480 m_481 ⟨by decide, by decide⟩ wo rfl hl.1 rfl (Nat.le_of_ble_eq_true rfl) dX0_pour_20 ⟨by decide, by decide⟩ (fun v W1 H locs hp wo => ?_)
  obtain ⟨rfl, rfl⟩ := hp
  refine nrm_i ?_
  refine if_ne_b (tgt := 28) hx hb dX0_pour_23 (by decide) (fun c_1 => ?_) (fun c_1 => ?_)
  · skip
    rw [if_pos c_1] at hM
    refine lv_aload_n hx hb dX0_pour_28 rfl (lv_at hl 3 rfl) ?_
    refine lv_iload_n hx hb dX0_pour_29 rfl (lv_at hl 1 rfl) ?_
    refine call_V (As := [.int (m_X3_stuffThatFreezes g d)]) (rest := []) (fun X => X) Fr_id cx (c_X3_freeze l G ad _ (d := d) (by omega) (m_X3_stuffThatFreezes g d)) fx_X3_freeze m_483 m_484 m_485 ⟨by decide, by decide⟩ wo (at_ladle G _ _ (d := d) (by omega)) rfl rfl rfl hl.1 rfl (Nat.le_of_ble_eq_true rfl) dX0_pour_30 ⟨by decide, by decide⟩ (fun v W1 H locs hp wo => ?_)
    obtain ⟨rfl, rfl⟩ := hp
    refine nrm_v ?_
    refine lv_aload_n hx hb dX0_pour_33 rfl (lv_at hl 4 rfl) ?_
    refine lv_ifnull hx hb dX0_pour_34 ?_
    refine lv_aload_n hx hb dX0_pour_37 rfl (lv_at hl 4 rfl) ?_
    refine lv_sipush (v := 1150) hx hb dX0_pour_38 (by decide) ?_
    refine lv_iload hx hb dX0_pour_41 (lv_at hl 0 rfl) ?_
    refine call_V (As := [.int 1150, .int ((m_X4_all g (4 + d)) - (m_X3_stuffThatFreezes g d))]) (rest := []) (fun X => X) Fr_id cx (c_X5_mixHeat l G ad _ (v := v) (by omega) 1150 ((m_X4_all g (4 + d)) - (m_X3_stuffThatFreezes g d))) fx_X5_mixHeat m_492 m_324 m_325 ⟨by decide, by decide⟩ wo (at_vessel G _ _ (v := v) (by omega)) rfl rfl rfl hl.1 rfl (Nat.le_of_ble_eq_true rfl) dX0_pour_43 ⟨by decide, by decide⟩ (fun v W1 H locs hp wo => ?_)
    obtain ⟨rfl, rfl⟩ := hp
    refine nrm_v ?_
    refine lv_aload_n hx hb dX0_pour_46 rfl (lv_at hl 4 rfl) ?_
    refine gf_vessel_stuff (v := v) (fun X => X) Fr_id cx wo (by omega) m_198 dX0_pour_47 ?_
    refine topv (y := .ref (ad (1 + v))) (congrArg (fun z => Value.ref (ad z)) (by omega)) ?_
    refine lv_aload_n hx hb dX0_pour_50 rfl (lv_at hl 3 rfl) ?_
    refine gf_ladle_stuff (d := d) (fun X => X) Fr_id cx wo (by omega) m_230 dX0_pour_51 ?_
    refine topv (y := .ref (ad (4 + d))) (congrArg (fun z => Value.ref (ad z)) (by omega)) ?_
    refine call_V (As := [.ref (ad (4 + d))]) (rest := []) (fun X => X) Fr_id cx (c_X4_addAll l G ad _ (t := 1 + v) (by omega) (by omega) (t2 := 4 + d) (by omega) (by omega)) fx_X4_addAll m_493 m_494 m_495 ⟨by decide, by decide⟩ wo (at_stuff G _ _ (t := 1 + v) (by omega) (by omega)) rfl rfl rfl hl.1 rfl (Nat.le_of_ble_eq_true rfl) dX0_pour_54 ⟨by decide, by decide⟩ (fun v W1 H locs hp wo => ?_)
    obtain ⟨rfl, rfl⟩ := hp
    refine nrm_v ?_
    refine lv_goto (tgt := 125) hx hb dX0_pour_57 (by decide) ?_
    refine lv_aload_n hx hb dX0_pour_125 rfl (lv_at hl 3 rfl) ?_
    refine call_V (As := []) (rest := []) (fun X => X) Fr_id cx (c_X3_empty l G ad _ (d := d) (by omega)) fx_X3_empty m_497 m_498 m_499 ⟨by decide, by decide⟩ wo (at_ladle G _ _ (d := d) (by omega)) rfl rfl rfl hl.1 rfl (Nat.le_of_ble_eq_true rfl) dX0_pour_126 ⟨by decide, by decide⟩ (fun v W1 H locs hp wo => ?_)
    obtain ⟨rfl, rfl⟩ := hp
    refine nrm_v ?_
    refine lv_iconst (v := 1) hx hb dX0_pour_129 (by decide) ?_
    refine tope (y := bi true) rfl ?_
    exact r2_z cx hQ wo dX0_pour_130 (by subst hM; exact ⟨rfl, rfl⟩)
  · skip
    rw [if_neg c_1] at hM
    refine lv_iconst (v := 0) hx hb dX0_pour_26 (by decide) ?_
    refine tope (y := bi false) rfl ?_
    exact r2_z cx hQ wo dX0_pour_27 (by subst hM; exact ⟨rfl, rfl⟩)
abbrev rm_X0_isCarriedOut : Room := { frames := 3, cells := 0, slots := 0, locals := 72 }
def m_X0_isCarriedOut (g : St) (r : Nat) : Bool × St :=
  if (m_X0_ladleNumbered g (m_X0_numberOfLadleOn g r)).isSome = true then (if (m_X2_firstWhat g r) = 1 then (false, g)
    else if (m_X0_vesselAt g (g (100 + r))).isSome = true then (if (m_X2_firstWhat g r) = 2 then (((m_X0_set g (((m_X0_ladleNumbered g (m_X0_numberOfLadleOn g r)).getD 0))).1), (m_X0_set g (((m_X0_ladleNumbered g (m_X0_numberOfLadleOn g r)).getD 0))).2)
      else if (m_X2_firstWhat g r) = 3 then (((m_X0_tap g (((m_X0_ladleNumbered g (m_X0_numberOfLadleOn g r)).getD 0))).1), (m_X0_tap g (((m_X0_ladleNumbered g (m_X0_numberOfLadleOn g r)).getD 0))).2)
      else if (m_X2_firstWhat g r) = 4 then (((m_X0_pour_v g (((m_X0_ladleNumbered g (m_X0_numberOfLadleOn g r)).getD 0)) (((m_X0_vesselAt g (g (100 + r))).getD 0))).1), (m_X0_pour_v g (((m_X0_ladleNumbered g (m_X0_numberOfLadleOn g r)).getD 0)) (((m_X0_vesselAt g (g (100 + r))).getD 0))).2)
      else if (m_X2_firstWhat g r) = 5 then (if ((m_X0_skim g (((m_X0_ladleNumbered g (m_X0_numberOfLadleOn g r)).getD 0)) (((m_X0_vesselAt g (g (100 + r))).getD 0))).1) = true then (true, (m_X0_skim g (((m_X0_ladleNumbered g (m_X0_numberOfLadleOn g r)).getD 0)) (((m_X0_vesselAt g (g (100 + r))).getD 0))).2)
        else (false, (m_X0_skim g (((m_X0_ladleNumbered g (m_X0_numberOfLadleOn g r)).getD 0)) (((m_X0_vesselAt g (g (100 + r))).getD 0))).2))
      else if (m_X2_firstWhat g r) = 6 then (if ((m_X0_draw g (((m_X0_ladleNumbered g (m_X0_numberOfLadleOn g r)).getD 0)) (((m_X0_vesselAt g (g (100 + r))).getD 0))).1) = true then (true, (m_X0_draw g (((m_X0_ladleNumbered g (m_X0_numberOfLadleOn g r)).getD 0)) (((m_X0_vesselAt g (g (100 + r))).getD 0))).2)
        else (false, (m_X0_draw g (((m_X0_ladleNumbered g (m_X0_numberOfLadleOn g r)).getD 0)) (((m_X0_vesselAt g (g (100 + r))).getD 0))).2))
      else if (m_X2_firstWhat g r) = 7 then (((m_X0_clean g (((m_X0_ladleNumbered g (m_X0_numberOfLadleOn g r)).getD 0))).1), (m_X0_clean g (((m_X0_ladleNumbered g (m_X0_numberOfLadleOn g r)).getD 0))).2)
      else (false, g))
    else if (m_X2_firstWhat g r) = 2 then (((m_X0_set g (((m_X0_ladleNumbered g (m_X0_numberOfLadleOn g r)).getD 0))).1), (m_X0_set g (((m_X0_ladleNumbered g (m_X0_numberOfLadleOn g r)).getD 0))).2)
    else if (m_X2_firstWhat g r) = 3 then (((m_X0_tap g (((m_X0_ladleNumbered g (m_X0_numberOfLadleOn g r)).getD 0))).1), (m_X0_tap g (((m_X0_ladleNumbered g (m_X0_numberOfLadleOn g r)).getD 0))).2)
    else if (m_X2_firstWhat g r) = 4 then (((m_X0_pour_n g (((m_X0_ladleNumbered g (m_X0_numberOfLadleOn g r)).getD 0))).1), (m_X0_pour_n g (((m_X0_ladleNumbered g (m_X0_numberOfLadleOn g r)).getD 0))).2)
    else if (m_X2_firstWhat g r) = 5 then (false, g)
    else if (m_X2_firstWhat g r) = 6 then (false, g)
    else if (m_X2_firstWhat g r) = 7 then (((m_X0_clean g (((m_X0_ladleNumbered g (m_X0_numberOfLadleOn g r)).getD 0))).1), (m_X0_clean g (((m_X0_ladleNumbered g (m_X0_numberOfLadleOn g r)).getD 0))).2)
    else (false, g))
  else if (m_X2_firstWhat g r) = 1 then (if ((m_X0_take g r).1) = true then (true, (m_X0_take g r).2)
    else (false, (m_X0_take g r).2))
  else (false, g)
set_option maxHeartbeats 4000000 in
set_option maxRecDepth 100000 in
theorem c_X0_isCarriedOut (l : Launch) (G : GG) (ad : Nat → Nat) (g : St) {r : Nat} (hr : r < 2) : Ct l G yX0_isCarriedOut cX0_isCarriedOut 4 (some Jvm.ClassFile.FieldType.boolean) rm_X0_isCarriedOut [.ref (ad 12), .ref (ad (26 + r))] (aw G ad g) (fun rv W1 => rv = some (.int (bi (m_X0_isCarriedOut g r).1)) ∧ W1 = aw G ad (m_X0_isCarriedOut g r).2) := by
  refine Ct.mk2 (by decide) (Nat.le_of_ble_eq_true rfl) ?_
  intro p e s m args below meth c A H locs ls Q cx wo hl hQ
  obtain ⟨hx, hb, hml, hr, hlo, hown, hts, hnm, kn, hA⟩ := id cx
  have hl : lv_has ls 4 [(0, .ref (ad 12)), (1, .ref (ad (26 + r)))] := hl
  generalize hM : m_X0_isCarriedOut g r = M at hQ
  unfold m_X0_isCarriedOut at hM
  refine lv_aload_n hx hb dX0_isCarriedOut_0 rfl (lv_at hl 0 rfl) ?_
  refine lv_aload_n hx hb dX0_isCarriedOut_1 rfl (lv_at hl 0 rfl) ?_
  refine lv_aload_n hx hb dX0_isCarriedOut_2 rfl (lv_at hl 1 rfl) ?_
  refine call_V (As := [.ref (ad (26 + r))]) (rest := [.ref (ad 12)]) (fun X => X) Fr_id cx (c_X0_numberOfLadleOn l G ad _ (r := r) (by omega)) fx_X0_numberOfLadleOn m_426 m_427 m_428 ⟨by decide, by decide⟩ wo (at_aisle G _ _ ) rfl rfl rfl hl.1 rfl (Nat.le_of_ble_eq_true rfl) dX0_isCarriedOut_3 ⟨by decide, by decide⟩ (fun v W1 H locs hp wo => ?_)
  obtain ⟨rfl, rfl⟩ := hp
  refine nrm_i ?_
  refine call_V (As := [.int (m_X0_numberOfLadleOn g r)]) (rest := []) (fun X => X) Fr_id cx (c_X0_ladleNumbered l G ad _ (m_X0_numberOfLadleOn g r)) fx_X0_ladleNumbered m_430 m_431 m_432 ⟨by decide, by decide⟩ wo (at_aisle G _ _ ) rfl rfl rfl hl.1 rfl (Nat.le_of_ble_eq_true rfl) dX0_isCarriedOut_6 ⟨by decide, by decide⟩ (fun v W1 H locs hp wo => ?_)
  obtain ⟨rfl, rfl⟩ := hp
  refine nrm_a (fun o_1 => ?_) (fun o_1 => ?_)
  · skip
    rw [if_neg o_1] at hM
    refine lv_astore_nN (lv' := [(2, .null), (0, .ref (ad 12)), (1, .ref (ad (26 + r)))]) hx hb dX0_isCarriedOut_9 rfl hl (by decide) rfl (fun ls hl => ?_)
    refine lv_aload_n hx hb dX0_isCarriedOut_10 rfl (lv_at hl 2 rfl) ?_
    refine call_V (As := []) (rest := []) (fun X => X) Fr_id cx (c_X2_firstWhat l G ad _ (r := r) (by omega)) fx_X2_firstWhat m_417 m_405 m_406 ⟨by decide, by decide⟩ wo (at_crane G _ _ (r := r) (by omega)) rfl rfl rfl hl.1 rfl (Nat.le_of_ble_eq_true rfl) dX0_isCarriedOut_11 ⟨by decide, by decide⟩ (fun v W1 H locs hp wo => ?_)
    obtain ⟨rfl, rfl⟩ := hp
    refine nrm_i ?_
    refine lv_iconst (v := 1) hx hb dX0_isCarriedOut_14 (by decide) ?_
    refine lv_icmp_ne (tgt := 36) hx hb dX0_isCarriedOut_15 (by decide) (fun c_2 => ?_) (fun c_2 => ?_)
    · skip
      rw [if_neg c_2] at hM
      refine lv_aload_nN hx hb dX0_isCarriedOut_36 rfl (lv_at hl 0 rfl) ?_
      refine lv_ifnonnullN hx hb dX0_isCarriedOut_37 ?_
      refine lv_iconst (v := 0) hx hb dX0_isCarriedOut_40 (by decide) ?_
      refine tope (y := bi false) rfl ?_
      exact r2_z cx hQ wo dX0_isCarriedOut_41 (by subst hM; exact ⟨rfl, rfl⟩)
    · skip
      rw [if_pos c_2] at hM
      refine lv_aload_nN hx hb dX0_isCarriedOut_18 rfl (lv_at hl 0 rfl) ?_
      refine lv_ifnonnullN hx hb dX0_isCarriedOut_19 ?_
      refine lv_aload_n hx hb dX0_isCarriedOut_22 rfl (lv_at hl 1 rfl) ?_
      refine lv_aload_n hx hb dX0_isCarriedOut_23 rfl (lv_at hl 2 rfl) ?_
      refine call_V (As := [.ref (ad (26 + r))]) (rest := []) (fun X => X) Fr_id cx (c_X0_take l G ad _ (r := r) (by omega)) fx_X0_take m_438 m_440 m_10 ⟨by decide, by decide⟩ wo (at_aisle G _ _ ) rfl rfl rfl hl.1 rfl (Nat.le_of_ble_eq_true rfl) dX0_isCarriedOut_24 ⟨by decide, by decide⟩ (fun v W1 H locs hp wo => ?_)
      obtain ⟨rfl, rfl⟩ := hp
      refine nrm_i ?_
      refine if_eq_b (tgt := 34) hx hb dX0_isCarriedOut_27 (by decide) (fun c_3 => ?_) (fun c_3 => ?_)
      · skip
        rw [if_neg c_3] at hM
        refine lv_iconst (v := 0) hx hb dX0_isCarriedOut_34 (by decide) ?_
        refine tope (y := bi false) rfl ?_
        exact r2_z cx hQ wo dX0_isCarriedOut_35 (by subst hM; exact ⟨rfl, rfl⟩)
      · skip
        rw [if_pos c_3] at hM
        refine lv_iconst (v := 1) hx hb dX0_isCarriedOut_30 (by decide) ?_
        refine lv_goto (tgt := 35) hx hb dX0_isCarriedOut_31 (by decide) ?_
        refine tope (y := bi true) rfl ?_
        exact r2_z cx hQ wo dX0_isCarriedOut_35 (by subst hM; exact ⟨rfl, rfl⟩)
  · skip
    rw [if_pos o_1] at hM
    have hq_4 : ((m_X0_ladleNumbered g (m_X0_numberOfLadleOn g r)).getD 0) < 4 := m_X0_ladleNumbered_lt _ _
    refine topv (y := .ref (ad (22 + ((m_X0_ladleNumbered g (m_X0_numberOfLadleOn g r)).getD 0)))) rfl ?_
    refine lv_astore_n (lv' := [(2, .ref (ad (22 + ((m_X0_ladleNumbered g (m_X0_numberOfLadleOn g r)).getD 0)))), (0, .ref (ad 12)), (1, .ref (ad (26 + r)))]) hx hb dX0_isCarriedOut_9 rfl hl (by decide) rfl (fun ls hl => ?_)
    refine lv_aload_n hx hb dX0_isCarriedOut_10 rfl (lv_at hl 2 rfl) ?_
    refine call_V (As := []) (rest := []) (fun X => X) Fr_id cx (c_X2_firstWhat l G ad _ (r := r) (by omega)) fx_X2_firstWhat m_417 m_405 m_406 ⟨by decide, by decide⟩ wo (at_crane G _ _ (r := r) (by omega)) rfl rfl rfl hl.1 rfl (Nat.le_of_ble_eq_true rfl) dX0_isCarriedOut_11 ⟨by decide, by decide⟩ (fun v W1 H locs hp wo => ?_)
    obtain ⟨rfl, rfl⟩ := hp
    refine nrm_i ?_
    refine lv_iconst (v := 1) hx hb dX0_isCarriedOut_14 (by decide) ?_
    refine lv_icmp_ne (tgt := 36) hx hb dX0_isCarriedOut_15 (by decide) (fun c_5 => ?_) (fun c_5 => ?_)
    · skip
      rw [if_neg c_5] at hM
      refine lv_aload_n hx hb dX0_isCarriedOut_36 rfl (lv_at hl 0 rfl) ?_
      refine lv_ifnonnull (tgt := 42) hx hb dX0_isCarriedOut_37 (by decide) ?_
      refine lv_aload_n hx hb dX0_isCarriedOut_42 rfl (lv_at hl 1 rfl) ?_
      refine lv_aload_n hx hb dX0_isCarriedOut_43 rfl (lv_at hl 2 rfl) ?_
      refine gf_crane_place (r := r) (fun X => X) Fr_id cx wo (by omega) m_107 dX0_isCarriedOut_44 ?_
      refine call_V (As := [.int (g (100 + r))]) (rest := []) (fun X => X) Fr_id cx (c_X0_vesselAt l G ad _ (g (100 + r))) fx_X0_vesselAt m_446 m_447 m_448 ⟨by decide, by decide⟩ wo (at_aisle G _ _ ) rfl rfl rfl hl.1 rfl (Nat.le_of_ble_eq_true rfl) dX0_isCarriedOut_47 ⟨by decide, by decide⟩ (fun v W1 H locs hp wo => ?_)
      obtain ⟨rfl, rfl⟩ := hp
      refine nrm_a (fun o_6 => ?_) (fun o_6 => ?_)
      · skip
        rw [if_neg o_6] at hM
        refine lv_astore_nN (lv' := [(3, .null), (2, .ref (ad (22 + ((m_X0_ladleNumbered g (m_X0_numberOfLadleOn g r)).getD 0)))), (0, .ref (ad 12)), (1, .ref (ad (26 + r)))]) hx hb dX0_isCarriedOut_50 rfl hl (by decide) rfl (fun ls hl => ?_)
        refine lv_aload_n hx hb dX0_isCarriedOut_51 rfl (lv_at hl 3 rfl) ?_
        refine call_V (As := []) (rest := []) (fun X => X) Fr_id cx (c_X2_firstWhat l G ad _ (r := r) (by omega)) fx_X2_firstWhat m_417 m_405 m_406 ⟨by decide, by decide⟩ wo (at_crane G _ _ (r := r) (by omega)) rfl rfl rfl hl.1 rfl (Nat.le_of_ble_eq_true rfl) dX0_isCarriedOut_52 ⟨by decide, by decide⟩ (fun v W1 H locs hp wo => ?_)
        obtain ⟨rfl, rfl⟩ := hp
        refine nrm_i ?_
        by_cases c_7 : (m_X2_firstWhat g r) = 2
        · skip
          rw [if_pos c_7] at hM
          refine lv_tableIn (off := 37) (tgt := 92) hx hb dX0_isCarriedOut_55 (by rw [c_7]; decide) (by rw [c_7]; decide) (by rw [c_7]; decide) (by decide) ?_
          refine lv_aload_n hx hb dX0_isCarriedOut_92 rfl (lv_at hl 2 rfl) ?_
          refine lv_aload_n hx hb dX0_isCarriedOut_93 rfl (lv_at hl 1 rfl) ?_
          refine call_V (As := [.ref (ad (22 + ((m_X0_ladleNumbered g (m_X0_numberOfLadleOn g r)).getD 0)))]) (rest := []) (fun X => X) Fr_id cx (c_X0_set l G ad _ (d := ((m_X0_ladleNumbered g (m_X0_numberOfLadleOn g r)).getD 0)) (by omega)) fx_X0_set m_450 m_452 m_11 ⟨by decide, by decide⟩ wo (at_aisle G _ _ ) rfl rfl rfl hl.1 rfl (Nat.le_of_ble_eq_true rfl) dX0_isCarriedOut_94 ⟨by decide, by decide⟩ (fun v W1 H locs hp wo => ?_)
          obtain ⟨rfl, rfl⟩ := hp
          refine nrm_i ?_
          exact r2_z cx hQ wo dX0_isCarriedOut_97 (by subst hM; exact ⟨rfl, rfl⟩)
        rw [if_neg c_7] at hM
        by_cases c_8 : (m_X2_firstWhat g r) = 3
        · skip
          rw [if_pos c_8] at hM
          refine lv_tableIn (off := 43) (tgt := 98) hx hb dX0_isCarriedOut_55 (by rw [c_8]; decide) (by rw [c_8]; decide) (by rw [c_8]; decide) (by decide) ?_
          refine lv_aload_n hx hb dX0_isCarriedOut_98 rfl (lv_at hl 2 rfl) ?_
          refine lv_aload_n hx hb dX0_isCarriedOut_99 rfl (lv_at hl 1 rfl) ?_
          refine call_V (As := [.ref (ad (22 + ((m_X0_ladleNumbered g (m_X0_numberOfLadleOn g r)).getD 0)))]) (rest := []) (fun X => X) Fr_id cx (c_X0_tap l G ad _ (d := ((m_X0_ladleNumbered g (m_X0_numberOfLadleOn g r)).getD 0)) (by omega)) fx_X0_tap m_458 m_460 m_12 ⟨by decide, by decide⟩ wo (at_aisle G _ _ ) rfl rfl rfl hl.1 rfl (Nat.le_of_ble_eq_true rfl) dX0_isCarriedOut_100 ⟨by decide, by decide⟩ (fun v W1 H locs hp wo => ?_)
          obtain ⟨rfl, rfl⟩ := hp
          refine nrm_i ?_
          exact r2_z cx hQ wo dX0_isCarriedOut_103 (by subst hM; exact ⟨rfl, rfl⟩)
        rw [if_neg c_8] at hM
        by_cases c_9 : (m_X2_firstWhat g r) = 4
        · skip
          rw [if_pos c_9] at hM
          refine lv_tableIn (off := 49) (tgt := 104) hx hb dX0_isCarriedOut_55 (by rw [c_9]; decide) (by rw [c_9]; decide) (by rw [c_9]; decide) (by decide) ?_
          refine lv_aload_n hx hb dX0_isCarriedOut_104 rfl (lv_at hl 2 rfl) ?_
          refine lv_aload_n hx hb dX0_isCarriedOut_105 rfl (lv_at hl 1 rfl) ?_
          refine lv_aload_nN hx hb dX0_isCarriedOut_106 rfl (lv_at hl 0 rfl) ?_
          refine call_V (As := [.ref (ad (22 + ((m_X0_ladleNumbered g (m_X0_numberOfLadleOn g r)).getD 0))), .null]) (rest := []) (fun X => X) Fr_id cx (c_X0_pour_n l G ad _ (d := ((m_X0_ladleNumbered g (m_X0_numberOfLadleOn g r)).getD 0)) (by omega)) fx_X0_pour m_471 m_473 m_14 ⟨by decide, by decide⟩ wo (at_aisle G _ _ ) rfl rfl rfl hl.1 rfl (Nat.le_of_ble_eq_true rfl) dX0_isCarriedOut_107 ⟨by decide, by decide⟩ (fun v W1 H locs hp wo => ?_)
          obtain ⟨rfl, rfl⟩ := hp
          refine nrm_i ?_
          exact r2_z cx hQ wo dX0_isCarriedOut_110 (by subst hM; exact ⟨rfl, rfl⟩)
        rw [if_neg c_9] at hM
        by_cases c_10 : (m_X2_firstWhat g r) = 5
        · skip
          rw [if_pos c_10] at hM
          refine lv_tableIn (off := 56) (tgt := 111) hx hb dX0_isCarriedOut_55 (by rw [c_10]; decide) (by rw [c_10]; decide) (by rw [c_10]; decide) (by decide) ?_
          refine lv_aload_nN hx hb dX0_isCarriedOut_111 rfl (lv_at hl 0 rfl) ?_
          refine lv_ifnullN (tgt := 127) hx hb dX0_isCarriedOut_112 (by decide) ?_
          refine lv_iconst (v := 0) hx hb dX0_isCarriedOut_127 (by decide) ?_
          refine tope (y := bi false) rfl ?_
          exact r2_z cx hQ wo dX0_isCarriedOut_128 (by subst hM; exact ⟨rfl, rfl⟩)
        rw [if_neg c_10] at hM
        by_cases c_11 : (m_X2_firstWhat g r) = 6
        · skip
          rw [if_pos c_11] at hM
          refine lv_tableIn (off := 74) (tgt := 129) hx hb dX0_isCarriedOut_55 (by rw [c_11]; decide) (by rw [c_11]; decide) (by rw [c_11]; decide) (by decide) ?_
          refine lv_aload_nN hx hb dX0_isCarriedOut_129 rfl (lv_at hl 0 rfl) ?_
          refine lv_ifnullN (tgt := 145) hx hb dX0_isCarriedOut_130 (by decide) ?_
          refine lv_iconst (v := 0) hx hb dX0_isCarriedOut_145 (by decide) ?_
          refine tope (y := bi false) rfl ?_
          exact r2_z cx hQ wo dX0_isCarriedOut_146 (by subst hM; exact ⟨rfl, rfl⟩)
        rw [if_neg c_11] at hM
        by_cases c_12 : (m_X2_firstWhat g r) = 7
        · skip
          rw [if_pos c_12] at hM
          refine lv_tableIn (off := 92) (tgt := 147) hx hb dX0_isCarriedOut_55 (by rw [c_12]; decide) (by rw [c_12]; decide) (by rw [c_12]; decide) (by decide) ?_
          refine lv_aload_n hx hb dX0_isCarriedOut_147 rfl (lv_at hl 2 rfl) ?_
          refine lv_aload_n hx hb dX0_isCarriedOut_148 rfl (lv_at hl 1 rfl) ?_
          refine call_V (As := [.ref (ad (22 + ((m_X0_ladleNumbered g (m_X0_numberOfLadleOn g r)).getD 0)))]) (rest := []) (fun X => X) Fr_id cx (c_X0_clean l G ad _ (d := ((m_X0_ladleNumbered g (m_X0_numberOfLadleOn g r)).getD 0)) (by omega)) fx_X0_clean m_515 m_517 m_15 ⟨by decide, by decide⟩ wo (at_aisle G _ _ ) rfl rfl rfl hl.1 rfl (Nat.le_of_ble_eq_true rfl) dX0_isCarriedOut_149 ⟨by decide, by decide⟩ (fun v W1 H locs hp wo => ?_)
          obtain ⟨rfl, rfl⟩ := hp
          refine nrm_i ?_
          exact r2_z cx hQ wo dX0_isCarriedOut_152 (by subst hM; exact ⟨rfl, rfl⟩)
        rw [if_neg c_12] at hM
        refine lv_tableOut (tgt := 153) hx hb dX0_isCarriedOut_55 (by have q0 := lv_neT c_7 (a := 2) rfl; have q1 := lv_neT c_8 (a := 3) rfl; have q2 := lv_neT c_9 (a := 4) rfl; have q3 := lv_neT c_10 (a := 5) rfl; have q4 := lv_neT c_11 (a := 6) rfl; have q5 := lv_neT c_12 (a := 7) rfl; omega) (by decide) ?_
        refine lv_iconst (v := 0) hx hb dX0_isCarriedOut_153 (by decide) ?_
        refine tope (y := bi false) rfl ?_
        exact r2_z cx hQ wo dX0_isCarriedOut_154 (by subst hM; exact ⟨rfl, rfl⟩)
      · skip
        rw [if_pos o_6] at hM
        have hq_13 : ((m_X0_vesselAt g (g (100 + r))).getD 0) < 3 := m_X0_vesselAt_lt _ _
        refine topv (y := .ref (ad (19 + ((m_X0_vesselAt g (g (100 + r))).getD 0)))) rfl ?_
        refine lv_astore_n (lv' := [(3, .ref (ad (19 + ((m_X0_vesselAt g (g (100 + r))).getD 0)))), (2, .ref (ad (22 + ((m_X0_ladleNumbered g (m_X0_numberOfLadleOn g r)).getD 0)))), (0, .ref (ad 12)), (1, .ref (ad (26 + r)))]) hx hb dX0_isCarriedOut_50 rfl hl (by decide) rfl (fun ls hl => ?_)
        refine lv_aload_n hx hb dX0_isCarriedOut_51 rfl (lv_at hl 3 rfl) ?_
        refine call_V (As := []) (rest := []) (fun X => X) Fr_id cx (c_X2_firstWhat l G ad _ (r := r) (by omega)) fx_X2_firstWhat m_417 m_405 m_406 ⟨by decide, by decide⟩ wo (at_crane G _ _ (r := r) (by omega)) rfl rfl rfl hl.1 rfl (Nat.le_of_ble_eq_true rfl) dX0_isCarriedOut_52 ⟨by decide, by decide⟩ (fun v W1 H locs hp wo => ?_)
        obtain ⟨rfl, rfl⟩ := hp
        refine nrm_i ?_
        by_cases c_14 : (m_X2_firstWhat g r) = 2
        · skip
          rw [if_pos c_14] at hM
          refine lv_tableIn (off := 37) (tgt := 92) hx hb dX0_isCarriedOut_55 (by rw [c_14]; decide) (by rw [c_14]; decide) (by rw [c_14]; decide) (by decide) ?_
          refine lv_aload_n hx hb dX0_isCarriedOut_92 rfl (lv_at hl 2 rfl) ?_
          refine lv_aload_n hx hb dX0_isCarriedOut_93 rfl (lv_at hl 1 rfl) ?_
          refine call_V (As := [.ref (ad (22 + ((m_X0_ladleNumbered g (m_X0_numberOfLadleOn g r)).getD 0)))]) (rest := []) (fun X => X) Fr_id cx (c_X0_set l G ad _ (d := ((m_X0_ladleNumbered g (m_X0_numberOfLadleOn g r)).getD 0)) (by omega)) fx_X0_set m_450 m_452 m_11 ⟨by decide, by decide⟩ wo (at_aisle G _ _ ) rfl rfl rfl hl.1 rfl (Nat.le_of_ble_eq_true rfl) dX0_isCarriedOut_94 ⟨by decide, by decide⟩ (fun v W1 H locs hp wo => ?_)
          obtain ⟨rfl, rfl⟩ := hp
          refine nrm_i ?_
          exact r2_z cx hQ wo dX0_isCarriedOut_97 (by subst hM; exact ⟨rfl, rfl⟩)
        rw [if_neg c_14] at hM
        by_cases c_15 : (m_X2_firstWhat g r) = 3
        · skip
          rw [if_pos c_15] at hM
          refine lv_tableIn (off := 43) (tgt := 98) hx hb dX0_isCarriedOut_55 (by rw [c_15]; decide) (by rw [c_15]; decide) (by rw [c_15]; decide) (by decide) ?_
          refine lv_aload_n hx hb dX0_isCarriedOut_98 rfl (lv_at hl 2 rfl) ?_
          refine lv_aload_n hx hb dX0_isCarriedOut_99 rfl (lv_at hl 1 rfl) ?_
          refine call_V (As := [.ref (ad (22 + ((m_X0_ladleNumbered g (m_X0_numberOfLadleOn g r)).getD 0)))]) (rest := []) (fun X => X) Fr_id cx (c_X0_tap l G ad _ (d := ((m_X0_ladleNumbered g (m_X0_numberOfLadleOn g r)).getD 0)) (by omega)) fx_X0_tap m_458 m_460 m_12 ⟨by decide, by decide⟩ wo (at_aisle G _ _ ) rfl rfl rfl hl.1 rfl (Nat.le_of_ble_eq_true rfl) dX0_isCarriedOut_100 ⟨by decide, by decide⟩ (fun v W1 H locs hp wo => ?_)
          obtain ⟨rfl, rfl⟩ := hp
          refine nrm_i ?_
          exact r2_z cx hQ wo dX0_isCarriedOut_103 (by subst hM; exact ⟨rfl, rfl⟩)
        rw [if_neg c_15] at hM
        by_cases c_16 : (m_X2_firstWhat g r) = 4
        · skip
          rw [if_pos c_16] at hM
          refine lv_tableIn (off := 49) (tgt := 104) hx hb dX0_isCarriedOut_55 (by rw [c_16]; decide) (by rw [c_16]; decide) (by rw [c_16]; decide) (by decide) ?_
          refine lv_aload_n hx hb dX0_isCarriedOut_104 rfl (lv_at hl 2 rfl) ?_
          refine lv_aload_n hx hb dX0_isCarriedOut_105 rfl (lv_at hl 1 rfl) ?_
          refine lv_aload_n hx hb dX0_isCarriedOut_106 rfl (lv_at hl 0 rfl) ?_
          refine call_V (As := [.ref (ad (22 + ((m_X0_ladleNumbered g (m_X0_numberOfLadleOn g r)).getD 0))), .ref (ad (19 + ((m_X0_vesselAt g (g (100 + r))).getD 0)))]) (rest := []) (fun X => X) Fr_id cx (c_X0_pour_v l G ad _ (d := ((m_X0_ladleNumbered g (m_X0_numberOfLadleOn g r)).getD 0)) (by omega) (v := ((m_X0_vesselAt g (g (100 + r))).getD 0)) (by omega)) fx_X0_pour m_471 m_473 m_14 ⟨by decide, by decide⟩ wo (at_aisle G _ _ ) rfl rfl rfl hl.1 rfl (Nat.le_of_ble_eq_true rfl) dX0_isCarriedOut_107 ⟨by decide, by decide⟩ (fun v W1 H locs hp wo => ?_)
          obtain ⟨rfl, rfl⟩ := hp
          refine nrm_i ?_
          exact r2_z cx hQ wo dX0_isCarriedOut_110 (by subst hM; exact ⟨rfl, rfl⟩)
        rw [if_neg c_16] at hM
        by_cases c_17 : (m_X2_firstWhat g r) = 5
        · skip
          rw [if_pos c_17] at hM
          refine lv_tableIn (off := 56) (tgt := 111) hx hb dX0_isCarriedOut_55 (by rw [c_17]; decide) (by rw [c_17]; decide) (by rw [c_17]; decide) (by decide) ?_
          refine lv_aload_n hx hb dX0_isCarriedOut_111 rfl (lv_at hl 0 rfl) ?_
          refine lv_ifnull hx hb dX0_isCarriedOut_112 ?_
          refine lv_aload_n hx hb dX0_isCarriedOut_115 rfl (lv_at hl 1 rfl) ?_
          refine lv_aload_n hx hb dX0_isCarriedOut_116 rfl (lv_at hl 0 rfl) ?_
          refine call_S (As := [.ref (ad (22 + ((m_X0_ladleNumbered g (m_X0_numberOfLadleOn g r)).getD 0))), .ref (ad (19 + ((m_X0_vesselAt g (g (100 + r))).getD 0)))]) (rest := []) (fun X => X) Fr_id cx (c_X0_skim l G ad _ (d := ((m_X0_ladleNumbered g (m_X0_numberOfLadleOn g r)).getD 0)) (by omega) (v := ((m_X0_vesselAt g (g (100 + r))).getD 0)) (by omega)) fx_X0_skim m_505 m_506 ⟨by decide, by decide⟩ wo rfl hl.1 rfl (Nat.le_of_ble_eq_true rfl) dX0_isCarriedOut_117 ⟨by decide, by decide⟩ (fun v W1 H locs hp wo => ?_)
          obtain ⟨rfl, rfl⟩ := hp
          refine nrm_i ?_
          refine if_eq_b (tgt := 127) hx hb dX0_isCarriedOut_120 (by decide) (fun c_18 => ?_) (fun c_18 => ?_)
          · skip
            rw [if_neg c_18] at hM
            refine lv_iconst (v := 0) hx hb dX0_isCarriedOut_127 (by decide) ?_
            refine tope (y := bi false) rfl ?_
            exact r2_z cx hQ wo dX0_isCarriedOut_128 (by subst hM; exact ⟨rfl, rfl⟩)
          · skip
            rw [if_pos c_18] at hM
            refine lv_iconst (v := 1) hx hb dX0_isCarriedOut_123 (by decide) ?_
            refine lv_goto (tgt := 128) hx hb dX0_isCarriedOut_124 (by decide) ?_
            refine tope (y := bi true) rfl ?_
            exact r2_z cx hQ wo dX0_isCarriedOut_128 (by subst hM; exact ⟨rfl, rfl⟩)
        rw [if_neg c_17] at hM
        by_cases c_19 : (m_X2_firstWhat g r) = 6
        · skip
          rw [if_pos c_19] at hM
          refine lv_tableIn (off := 74) (tgt := 129) hx hb dX0_isCarriedOut_55 (by rw [c_19]; decide) (by rw [c_19]; decide) (by rw [c_19]; decide) (by decide) ?_
          refine lv_aload_n hx hb dX0_isCarriedOut_129 rfl (lv_at hl 0 rfl) ?_
          refine lv_ifnull hx hb dX0_isCarriedOut_130 ?_
          refine lv_aload_n hx hb dX0_isCarriedOut_133 rfl (lv_at hl 1 rfl) ?_
          refine lv_aload_n hx hb dX0_isCarriedOut_134 rfl (lv_at hl 0 rfl) ?_
          refine call_S (As := [.ref (ad (22 + ((m_X0_ladleNumbered g (m_X0_numberOfLadleOn g r)).getD 0))), .ref (ad (19 + ((m_X0_vesselAt g (g (100 + r))).getD 0)))]) (rest := []) (fun X => X) Fr_id cx (c_X0_draw l G ad _ (d := ((m_X0_ladleNumbered g (m_X0_numberOfLadleOn g r)).getD 0)) (by omega) (v := ((m_X0_vesselAt g (g (100 + r))).getD 0)) (by omega)) fx_X0_draw m_508 m_509 ⟨by decide, by decide⟩ wo rfl hl.1 rfl (Nat.le_of_ble_eq_true rfl) dX0_isCarriedOut_135 ⟨by decide, by decide⟩ (fun v W1 H locs hp wo => ?_)
          obtain ⟨rfl, rfl⟩ := hp
          refine nrm_i ?_
          refine if_eq_b (tgt := 145) hx hb dX0_isCarriedOut_138 (by decide) (fun c_20 => ?_) (fun c_20 => ?_)
          · skip
            rw [if_neg c_20] at hM
            refine lv_iconst (v := 0) hx hb dX0_isCarriedOut_145 (by decide) ?_
            refine tope (y := bi false) rfl ?_
            exact r2_z cx hQ wo dX0_isCarriedOut_146 (by subst hM; exact ⟨rfl, rfl⟩)
          · skip
            rw [if_pos c_20] at hM
            refine lv_iconst (v := 1) hx hb dX0_isCarriedOut_141 (by decide) ?_
            refine lv_goto (tgt := 146) hx hb dX0_isCarriedOut_142 (by decide) ?_
            refine tope (y := bi true) rfl ?_
            exact r2_z cx hQ wo dX0_isCarriedOut_146 (by subst hM; exact ⟨rfl, rfl⟩)
        rw [if_neg c_19] at hM
        by_cases c_21 : (m_X2_firstWhat g r) = 7
        · skip
          rw [if_pos c_21] at hM
          refine lv_tableIn (off := 92) (tgt := 147) hx hb dX0_isCarriedOut_55 (by rw [c_21]; decide) (by rw [c_21]; decide) (by rw [c_21]; decide) (by decide) ?_
          refine lv_aload_n hx hb dX0_isCarriedOut_147 rfl (lv_at hl 2 rfl) ?_
          refine lv_aload_n hx hb dX0_isCarriedOut_148 rfl (lv_at hl 1 rfl) ?_
          refine call_V (As := [.ref (ad (22 + ((m_X0_ladleNumbered g (m_X0_numberOfLadleOn g r)).getD 0)))]) (rest := []) (fun X => X) Fr_id cx (c_X0_clean l G ad _ (d := ((m_X0_ladleNumbered g (m_X0_numberOfLadleOn g r)).getD 0)) (by omega)) fx_X0_clean m_515 m_517 m_15 ⟨by decide, by decide⟩ wo (at_aisle G _ _ ) rfl rfl rfl hl.1 rfl (Nat.le_of_ble_eq_true rfl) dX0_isCarriedOut_149 ⟨by decide, by decide⟩ (fun v W1 H locs hp wo => ?_)
          obtain ⟨rfl, rfl⟩ := hp
          refine nrm_i ?_
          exact r2_z cx hQ wo dX0_isCarriedOut_152 (by subst hM; exact ⟨rfl, rfl⟩)
        rw [if_neg c_21] at hM
        refine lv_tableOut (tgt := 153) hx hb dX0_isCarriedOut_55 (by have q0 := lv_neT c_14 (a := 2) rfl; have q1 := lv_neT c_15 (a := 3) rfl; have q2 := lv_neT c_16 (a := 4) rfl; have q3 := lv_neT c_17 (a := 5) rfl; have q4 := lv_neT c_19 (a := 6) rfl; have q5 := lv_neT c_21 (a := 7) rfl; omega) (by decide) ?_
        refine lv_iconst (v := 0) hx hb dX0_isCarriedOut_153 (by decide) ?_
        refine tope (y := bi false) rfl ?_
        exact r2_z cx hQ wo dX0_isCarriedOut_154 (by subst hM; exact ⟨rfl, rfl⟩)
    · skip
      rw [if_pos c_5] at hM
      refine lv_aload_n hx hb dX0_isCarriedOut_18 rfl (lv_at hl 0 rfl) ?_
      refine lv_ifnonnull (tgt := 34) hx hb dX0_isCarriedOut_19 (by decide) ?_
      refine lv_iconst (v := 0) hx hb dX0_isCarriedOut_34 (by decide) ?_
      refine tope (y := bi false) rfl ?_
      exact r2_z cx hQ wo dX0_isCarriedOut_35 (by subst hM; exact ⟨rfl, rfl⟩)
