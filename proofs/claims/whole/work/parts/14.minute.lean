/-! printed walks: a minute of the class -/
abbrev rm_X0_blowVessels : Room := { frames := 3, cells := 0, slots := 0, locals := 69 }
def m_X0_blowVessels_j1 (g : St) : St := (if (g 79) = 0 then (upd g 142 0) else (m_X0_blowParts (upd g 142 0) 0))
def m_X0_blowVessels_j2 (g : St) : St := (if (g 80) = 0 then g else (m_X0_blowParts g 1))
def m_X0_blowVessels_j3 (g : St) : St := (if (g 81) = 0 then g else (m_X0_blowParts g 2))
def m_X0_blowVessels (g : St) : St :=
  (m_X5_cool (m_X5_cool (m_X5_cool (m_X0_blowVessels_j3 (m_X0_blowVessels_j2 (m_X0_blowVessels_j1 g))) 0) 1) 2)
set_option maxHeartbeats 4000000 in
set_option maxRecDepth 100000 in
theorem c_X0_blowVessels (l : Launch) (G : GG) (ad : Nat → Nat) (g : St)  : Ct l G yX0_blowVessels cX0_blowVessels 5 (none : Option Jvm.ClassFile.FieldType) rm_X0_blowVessels [.ref (ad 12)] (aw G ad g) (fun rv W1 => rv = none ∧ W1 = aw G ad (m_X0_blowVessels g)) := by
  refine Ct.mk2 (by decide) (Nat.le_of_ble_eq_true rfl) ?_
  intro p e s m args below meth c A H locs ls Q cx wo hl hQ
  obtain ⟨hx, hb, hml, hr, hlo, hown, hts, hnm, kn, hA⟩ := id cx
  have hl : lv_has ls 5 [(0, .ref (ad 12))] := hl
  generalize hM : m_X0_blowVessels g = M at hQ
  unfold m_X0_blowVessels at hM
  refine lv_aload_n hx hb dX0_blowVessels_0 rfl (lv_at hl 0 rfl) ?_
  refine gf_aisle_books (fun X => X) Fr_id cx wo  m_255 dX0_blowVessels_1 ?_
  refine lv_iconst (v := 0) hx hb dX0_blowVessels_4 (by decide) ?_
  refine pf_books_gasOfMinute (fun X => X) Fr_id cx wo  m_152 dX0_blowVessels_5 (fun H locs gz hgz wo => ?_)
  subst hgz
  refine lv_aload_n hx hb dX0_blowVessels_8 rfl (lv_at hl 0 rfl) ?_
  refine gf_aisle_vessels (fun X => X) Fr_id cx wo  m_251 dX0_blowVessels_9 ?_
  refine lv_astore_n (lv' := [(1, .ref (ad 29)), (0, .ref (ad 12))]) hx hb dX0_blowVessels_12 rfl hl (by decide) rfl (fun ls hl => ?_)
  refine lv_aload_n hx hb dX0_blowVessels_13 rfl (lv_at hl 0 rfl) ?_
  refine alen (v := 3) (fun X => X) Fr_id cx wo (at_vs G _ _) (t0 := 1) rfl rfl dX0_blowVessels_14 ?_
  refine lv_istore_n (lv' := [(2, .int 3), (1, .ref (ad 29)), (0, .ref (ad 12))]) hx hb dX0_blowVessels_15 rfl hl (by decide) rfl (fun ls hl => ?_)
  refine lv_iconst (v := 0) hx hb dX0_blowVessels_16 (by decide) ?_
  refine lv_istore_n (lv' := [(3, .int 0), (2, .int 3), (1, .ref (ad 29)), (0, .ref (ad 12))]) hx hb dX0_blowVessels_17 rfl hl (by decide) rfl (fun ls hl => ?_)
  refine lv_iload_n hx hb dX0_blowVessels_18 rfl (lv_at hl 0 rfl) ?_
  refine lv_iload_n hx hb dX0_blowVessels_19 rfl (lv_at hl 1 rfl) ?_
  refine lv_icmp_ge (tgt := 48) hx hb dX0_blowVessels_20 (by decide) (fun h => absurd h (by decide)) (fun _ => ?_)
  refine lv_aload_n hx hb dX0_blowVessels_23 rfl (lv_at hl 2 rfl) ?_
  refine lv_iload_n hx hb dX0_blowVessels_24 rfl (lv_at hl 0 rfl) ?_
  refine ald_r (n := 0) (fun X => X) Fr_id cx wo (at_vs G _ _) (t0 := 1) rfl rfl (by omega) (by decide) dX0_blowVessels_25 ?_
  refine topv (y := .ref (ad (19 + 0))) rfl ?_
  refine lv_astore (lv' := [(4, .ref (ad (19 + 0))), (3, .int 0), (2, .int 3), (1, .ref (ad 29)), (0, .ref (ad 12))]) hx hb dX0_blowVessels_26 hl (by decide) rfl (fun ls hl => ?_)
  refine lv_aload hx hb dX0_blowVessels_28 (lv_at hl 0 rfl) ?_
  refine gf_vessel_isBlown (v := 0) (fun X => X) Fr_id cx wo (by omega) m_208 dX0_blowVessels_30 ?_
  refine tope (y := (g 79)) (show (upd g 142 0) 79 = (g 79) from (rdN (by omega) rfl)) ?_
  have hj_1 : ∀ (H : Heap) (locs : List Loc) (ls : Array Slot), Wo G A s.heap H locs (aw G ad (m_X0_blowVessels_j1 g)) → lv_has ls 5 [(4, .ref (ad (19 + 0))), (3, .int 0), (2, .int 3), (1, .ref (ad 29)), (0, .ref (ad 12))] → W p l e rm_X0_blowVessels s m args below meth c H locs 0 0 Q (F0 m 42 ls []) := by
    intro H locs ls wo hl
    refine lv_iinc (v := 1) (lv' := [(3, .int 1), (4, .ref (ad (19 + 0))), (2, .int 3), (1, .ref (ad 29)), (0, .ref (ad 12))]) hx hb dX0_blowVessels_42 hl (k := 1) rfl (by decide) (by decide) rfl (fun ls hl => ?_)
    refine lv_goto (tgt := 18) hx hb dX0_blowVessels_45 (by decide) ?_
    refine lv_iload_n hx hb dX0_blowVessels_18 rfl (lv_at hl 0 rfl) ?_
    refine lv_iload_n hx hb dX0_blowVessels_19 rfl (lv_at hl 2 rfl) ?_
    refine lv_icmp_ge (tgt := 48) hx hb dX0_blowVessels_20 (by decide) (fun h => absurd h (by decide)) (fun _ => ?_)
    refine lv_aload_n hx hb dX0_blowVessels_23 rfl (lv_at hl 3 rfl) ?_
    refine lv_iload_n hx hb dX0_blowVessels_24 rfl (lv_at hl 0 rfl) ?_
    refine ald_r (n := 1) (fun X => X) Fr_id cx wo (at_vs G _ _) (t0 := 1) rfl rfl (by omega) (by decide) dX0_blowVessels_25 ?_
    refine topv (y := .ref (ad (19 + 1))) rfl ?_
    refine lv_astore (lv' := [(4, .ref (ad (19 + 1))), (3, .int 1), (2, .int 3), (1, .ref (ad 29)), (0, .ref (ad 12))]) hx hb dX0_blowVessels_26 hl (by decide) rfl (fun ls hl => ?_)
    refine lv_aload hx hb dX0_blowVessels_28 (lv_at hl 0 rfl) ?_
    refine gf_vessel_isBlown (v := 1) (fun X => X) Fr_id cx wo (by omega) m_208 dX0_blowVessels_30 ?_
    refine tope (y := ((m_X0_blowVessels_j1 g) 80)) rfl ?_
    have hj_2 : ∀ (H : Heap) (locs : List Loc) (ls : Array Slot), Wo G A s.heap H locs (aw G ad (m_X0_blowVessels_j2 (m_X0_blowVessels_j1 g))) → lv_has ls 5 [(4, .ref (ad (19 + 1))), (3, .int 1), (2, .int 3), (1, .ref (ad 29)), (0, .ref (ad 12))] → W p l e rm_X0_blowVessels s m args below meth c H locs 0 0 Q (F0 m 42 ls []) := by
      intro H locs ls wo hl
      refine lv_iinc (v := 2) (lv' := [(3, .int 2), (4, .ref (ad (19 + 1))), (2, .int 3), (1, .ref (ad 29)), (0, .ref (ad 12))]) hx hb dX0_blowVessels_42 hl (k := 1) rfl (by decide) (by decide) rfl (fun ls hl => ?_)
      refine lv_goto (tgt := 18) hx hb dX0_blowVessels_45 (by decide) ?_
      refine lv_iload_n hx hb dX0_blowVessels_18 rfl (lv_at hl 0 rfl) ?_
      refine lv_iload_n hx hb dX0_blowVessels_19 rfl (lv_at hl 2 rfl) ?_
      refine lv_icmp_ge (tgt := 48) hx hb dX0_blowVessels_20 (by decide) (fun h => absurd h (by decide)) (fun _ => ?_)
      refine lv_aload_n hx hb dX0_blowVessels_23 rfl (lv_at hl 3 rfl) ?_
      refine lv_iload_n hx hb dX0_blowVessels_24 rfl (lv_at hl 0 rfl) ?_
      refine ald_r (n := 2) (fun X => X) Fr_id cx wo (at_vs G _ _) (t0 := 1) rfl rfl (by omega) (by decide) dX0_blowVessels_25 ?_
      refine topv (y := .ref (ad (19 + 2))) rfl ?_
      refine lv_astore (lv' := [(4, .ref (ad (19 + 2))), (3, .int 2), (2, .int 3), (1, .ref (ad 29)), (0, .ref (ad 12))]) hx hb dX0_blowVessels_26 hl (by decide) rfl (fun ls hl => ?_)
      refine lv_aload hx hb dX0_blowVessels_28 (lv_at hl 0 rfl) ?_
      refine gf_vessel_isBlown (v := 2) (fun X => X) Fr_id cx wo (by omega) m_208 dX0_blowVessels_30 ?_
      refine tope (y := ((m_X0_blowVessels_j2 (m_X0_blowVessels_j1 g)) 81)) rfl ?_
      have hj_3 : ∀ (H : Heap) (locs : List Loc) (ls : Array Slot), Wo G A s.heap H locs (aw G ad (m_X0_blowVessels_j3 (m_X0_blowVessels_j2 (m_X0_blowVessels_j1 g)))) → lv_has ls 5 [(4, .ref (ad (19 + 2))), (3, .int 2), (2, .int 3), (1, .ref (ad 29)), (0, .ref (ad 12))] → W p l e rm_X0_blowVessels s m args below meth c H locs 0 0 Q (F0 m 42 ls []) := by
        intro H locs ls wo hl
        refine lv_iinc (v := 3) (lv' := [(3, .int 3), (4, .ref (ad (19 + 2))), (2, .int 3), (1, .ref (ad 29)), (0, .ref (ad 12))]) hx hb dX0_blowVessels_42 hl (k := 1) rfl (by decide) (by decide) rfl (fun ls hl => ?_)
        refine lv_goto (tgt := 18) hx hb dX0_blowVessels_45 (by decide) ?_
        refine lv_iload_n hx hb dX0_blowVessels_18 rfl (lv_at hl 0 rfl) ?_
        refine lv_iload_n hx hb dX0_blowVessels_19 rfl (lv_at hl 2 rfl) ?_
        refine lv_icmp_ge (tgt := 48) hx hb dX0_blowVessels_20 (by decide) (fun _ => ?_) (fun h => absurd (show ¬ _ from h) (by decide))
        refine lv_aload_n hx hb dX0_blowVessels_48 rfl (lv_at hl 4 rfl) ?_
        refine gf_aisle_vessels (fun X => X) Fr_id cx wo  m_251 dX0_blowVessels_49 ?_
        refine lv_astore_n (lv' := [(1, .ref (ad 29)), (3, .int 3), (4, .ref (ad (19 + 2))), (2, .int 3), (0, .ref (ad 12))]) hx hb dX0_blowVessels_52 rfl hl (by decide) rfl (fun ls hl => ?_)
        refine lv_aload_n hx hb dX0_blowVessels_53 rfl (lv_at hl 0 rfl) ?_
        refine alen (v := 3) (fun X => X) Fr_id cx wo (at_vs G _ _) (t0 := 1) rfl rfl dX0_blowVessels_54 ?_
        refine lv_istore_n (lv' := [(2, .int 3), (1, .ref (ad 29)), (3, .int 3), (4, .ref (ad (19 + 2))), (0, .ref (ad 12))]) hx hb dX0_blowVessels_55 rfl hl (by decide) rfl (fun ls hl => ?_)
        refine lv_iconst (v := 0) hx hb dX0_blowVessels_56 (by decide) ?_
        refine lv_istore_n (lv' := [(3, .int 0), (2, .int 3), (1, .ref (ad 29)), (4, .ref (ad (19 + 2))), (0, .ref (ad 12))]) hx hb dX0_blowVessels_57 rfl hl (by decide) rfl (fun ls hl => ?_)
        refine lv_iload_n hx hb dX0_blowVessels_58 rfl (lv_at hl 0 rfl) ?_
        refine lv_iload_n hx hb dX0_blowVessels_59 rfl (lv_at hl 1 rfl) ?_
        refine lv_icmp_ge (tgt := 79) hx hb dX0_blowVessels_60 (by decide) (fun h => absurd h (by decide)) (fun _ => ?_)
        refine lv_aload_n hx hb dX0_blowVessels_63 rfl (lv_at hl 2 rfl) ?_
        refine lv_iload_n hx hb dX0_blowVessels_64 rfl (lv_at hl 0 rfl) ?_
        refine ald_r (n := 0) (fun X => X) Fr_id cx wo (at_vs G _ _) (t0 := 1) rfl rfl (by omega) (by decide) dX0_blowVessels_65 ?_
        refine topv (y := .ref (ad (19 + 0))) rfl ?_
        refine lv_astore (lv' := [(4, .ref (ad (19 + 0))), (3, .int 0), (2, .int 3), (1, .ref (ad 29)), (0, .ref (ad 12))]) hx hb dX0_blowVessels_66 hl (by decide) rfl (fun ls hl => ?_)
        refine lv_aload hx hb dX0_blowVessels_68 (lv_at hl 0 rfl) ?_
        refine call_V (As := []) (rest := []) (fun X => X) Fr_id cx (c_X5_cool l G ad _ (v := 0) (by omega)) fx_X5_cool m_385 m_386 m_387 ⟨by decide, by decide⟩ wo (at_vessel G _ _ (v := 0) (by omega)) rfl rfl rfl hl.1 rfl (Nat.le_of_ble_eq_true rfl) dX0_blowVessels_70 ⟨by decide, by decide⟩ (fun v W1 H locs hp wo => ?_)
        obtain ⟨rfl, rfl⟩ := hp
        refine nrm_v ?_
        refine lv_iinc (v := 1) (lv' := [(3, .int 1), (4, .ref (ad (19 + 0))), (2, .int 3), (1, .ref (ad 29)), (0, .ref (ad 12))]) hx hb dX0_blowVessels_73 hl (k := 1) rfl (by decide) (by decide) rfl (fun ls hl => ?_)
        refine lv_goto (tgt := 58) hx hb dX0_blowVessels_76 (by decide) ?_
        refine lv_iload_n hx hb dX0_blowVessels_58 rfl (lv_at hl 0 rfl) ?_
        refine lv_iload_n hx hb dX0_blowVessels_59 rfl (lv_at hl 2 rfl) ?_
        refine lv_icmp_ge (tgt := 79) hx hb dX0_blowVessels_60 (by decide) (fun h => absurd h (by decide)) (fun _ => ?_)
        refine lv_aload_n hx hb dX0_blowVessels_63 rfl (lv_at hl 3 rfl) ?_
        refine lv_iload_n hx hb dX0_blowVessels_64 rfl (lv_at hl 0 rfl) ?_
        refine ald_r (n := 1) (fun X => X) Fr_id cx wo (at_vs G _ _) (t0 := 1) rfl rfl (by omega) (by decide) dX0_blowVessels_65 ?_
        refine topv (y := .ref (ad (19 + 1))) rfl ?_
        refine lv_astore (lv' := [(4, .ref (ad (19 + 1))), (3, .int 1), (2, .int 3), (1, .ref (ad 29)), (0, .ref (ad 12))]) hx hb dX0_blowVessels_66 hl (by decide) rfl (fun ls hl => ?_)
        refine lv_aload hx hb dX0_blowVessels_68 (lv_at hl 0 rfl) ?_
        refine call_V (As := []) (rest := []) (fun X => X) Fr_id cx (c_X5_cool l G ad _ (v := 1) (by omega)) fx_X5_cool m_385 m_386 m_387 ⟨by decide, by decide⟩ wo (at_vessel G _ _ (v := 1) (by omega)) rfl rfl rfl hl.1 rfl (Nat.le_of_ble_eq_true rfl) dX0_blowVessels_70 ⟨by decide, by decide⟩ (fun v W1 H locs hp wo => ?_)
        obtain ⟨rfl, rfl⟩ := hp
        refine nrm_v ?_
        refine lv_iinc (v := 2) (lv' := [(3, .int 2), (4, .ref (ad (19 + 1))), (2, .int 3), (1, .ref (ad 29)), (0, .ref (ad 12))]) hx hb dX0_blowVessels_73 hl (k := 1) rfl (by decide) (by decide) rfl (fun ls hl => ?_)
        refine lv_goto (tgt := 58) hx hb dX0_blowVessels_76 (by decide) ?_
        refine lv_iload_n hx hb dX0_blowVessels_58 rfl (lv_at hl 0 rfl) ?_
        refine lv_iload_n hx hb dX0_blowVessels_59 rfl (lv_at hl 2 rfl) ?_
        refine lv_icmp_ge (tgt := 79) hx hb dX0_blowVessels_60 (by decide) (fun h => absurd h (by decide)) (fun _ => ?_)
        refine lv_aload_n hx hb dX0_blowVessels_63 rfl (lv_at hl 3 rfl) ?_
        refine lv_iload_n hx hb dX0_blowVessels_64 rfl (lv_at hl 0 rfl) ?_
        refine ald_r (n := 2) (fun X => X) Fr_id cx wo (at_vs G _ _) (t0 := 1) rfl rfl (by omega) (by decide) dX0_blowVessels_65 ?_
        refine topv (y := .ref (ad (19 + 2))) rfl ?_
        refine lv_astore (lv' := [(4, .ref (ad (19 + 2))), (3, .int 2), (2, .int 3), (1, .ref (ad 29)), (0, .ref (ad 12))]) hx hb dX0_blowVessels_66 hl (by decide) rfl (fun ls hl => ?_)
        refine lv_aload hx hb dX0_blowVessels_68 (lv_at hl 0 rfl) ?_
        refine call_V (As := []) (rest := []) (fun X => X) Fr_id cx (c_X5_cool l G ad _ (v := 2) (by omega)) fx_X5_cool m_385 m_386 m_387 ⟨by decide, by decide⟩ wo (at_vessel G _ _ (v := 2) (by omega)) rfl rfl rfl hl.1 rfl (Nat.le_of_ble_eq_true rfl) dX0_blowVessels_70 ⟨by decide, by decide⟩ (fun v W1 H locs hp wo => ?_)
        obtain ⟨rfl, rfl⟩ := hp
        refine nrm_v ?_
        refine lv_iinc (v := 3) (lv' := [(3, .int 3), (4, .ref (ad (19 + 2))), (2, .int 3), (1, .ref (ad 29)), (0, .ref (ad 12))]) hx hb dX0_blowVessels_73 hl (k := 1) rfl (by decide) (by decide) rfl (fun ls hl => ?_)
        refine lv_goto (tgt := 58) hx hb dX0_blowVessels_76 (by decide) ?_
        refine lv_iload_n hx hb dX0_blowVessels_58 rfl (lv_at hl 0 rfl) ?_
        refine lv_iload_n hx hb dX0_blowVessels_59 rfl (lv_at hl 2 rfl) ?_
        refine lv_icmp_ge (tgt := 79) hx hb dX0_blowVessels_60 (by decide) (fun _ => ?_) (fun h => absurd (show ¬ _ from h) (by decide))
        exact r2_v cx hQ wo dX0_blowVessels_79 (by subst hM; exact ⟨rfl, rfl⟩)
      refine lv_if_eq (tgt := 42) hx hb dX0_blowVessels_33 (by decide) (fun c_4 => ?_) (fun c_4 => ?_)
      · skip
        exact hj_3 _ _ _ (by unfold m_X0_blowVessels_j3; rw [if_pos c_4]; exact wo) (lv_sub hl [0, 1, 2, 3, 4] rfl)
      · skip
        refine lv_aload_n hx hb dX0_blowVessels_36 rfl (lv_at hl 4 rfl) ?_
        refine lv_aload hx hb dX0_blowVessels_37 (lv_at hl 0 rfl) ?_
        refine call_V (As := [.ref (ad (19 + 2))]) (rest := []) (fun X => X) Fr_id cx (c_X0_blowParts l G ad _ (v := 2) (by omega)) fx_X0_blowParts m_369 m_371 m_3 ⟨by decide, by decide⟩ wo (at_aisle G _ _ ) rfl rfl rfl hl.1 rfl (Nat.le_of_ble_eq_true rfl) dX0_blowVessels_39 ⟨by decide, by decide⟩ (fun v W1 H locs hp wo => ?_)
        obtain ⟨rfl, rfl⟩ := hp
        refine nrm_v ?_
        exact hj_3 _ _ _ (by unfold m_X0_blowVessels_j3; rw [if_neg c_4]; exact wo) (lv_sub hl [0, 1, 2, 3, 4] rfl)
    refine lv_if_eq (tgt := 42) hx hb dX0_blowVessels_33 (by decide) (fun c_5 => ?_) (fun c_5 => ?_)
    · skip
      exact hj_2 _ _ _ (by unfold m_X0_blowVessels_j2; rw [if_pos c_5]; exact wo) (lv_sub hl [0, 1, 2, 3, 4] rfl)
    · skip
      refine lv_aload_n hx hb dX0_blowVessels_36 rfl (lv_at hl 4 rfl) ?_
      refine lv_aload hx hb dX0_blowVessels_37 (lv_at hl 0 rfl) ?_
      refine call_V (As := [.ref (ad (19 + 1))]) (rest := []) (fun X => X) Fr_id cx (c_X0_blowParts l G ad _ (v := 1) (by omega)) fx_X0_blowParts m_369 m_371 m_3 ⟨by decide, by decide⟩ wo (at_aisle G _ _ ) rfl rfl rfl hl.1 rfl (Nat.le_of_ble_eq_true rfl) dX0_blowVessels_39 ⟨by decide, by decide⟩ (fun v W1 H locs hp wo => ?_)
      obtain ⟨rfl, rfl⟩ := hp
      refine nrm_v ?_
      exact hj_2 _ _ _ (by unfold m_X0_blowVessels_j2; rw [if_neg c_5]; exact wo) (lv_sub hl [0, 1, 2, 3, 4] rfl)
  refine lv_if_eq (tgt := 42) hx hb dX0_blowVessels_33 (by decide) (fun c_6 => ?_) (fun c_6 => ?_)
  · skip
    exact hj_1 _ _ _ (by unfold m_X0_blowVessels_j1; rw [if_pos c_6]; exact wo) (lv_sub hl [0, 1, 2, 3, 4] rfl)
  · skip
    refine lv_aload_n hx hb dX0_blowVessels_36 rfl (lv_at hl 4 rfl) ?_
    refine lv_aload hx hb dX0_blowVessels_37 (lv_at hl 0 rfl) ?_
    refine call_V (As := [.ref (ad (19 + 0))]) (rest := []) (fun X => X) Fr_id cx (c_X0_blowParts l G ad _ (v := 0) (by omega)) fx_X0_blowParts m_369 m_371 m_3 ⟨by decide, by decide⟩ wo (at_aisle G _ _ ) rfl rfl rfl hl.1 rfl (Nat.le_of_ble_eq_true rfl) dX0_blowVessels_39 ⟨by decide, by decide⟩ (fun v W1 H locs hp wo => ?_)
    obtain ⟨rfl, rfl⟩ := hp
    refine nrm_v ?_
    exact hj_1 _ _ _ (by unfold m_X0_blowVessels_j1; rw [if_neg c_6]; exact wo) (lv_sub hl [0, 1, 2, 3, 4] rfl)
abbrev rm_X0_work : Room := { frames := 4, cells := 0, slots := 0, locals := 95 }
def m_X0_work_t (g : St) (r r2 : Nat) : St :=
  if (g (104 + r)) = 0 then g
  else if (m_X2_firstWhat g r) = 0 then (m_X0_stepOrWait g r r2)
  else if ((m_X0_isCarriedOut g r).1) = true then (m_X0_finishFirst (m_X0_isCarriedOut g r).2 r)
  else (upd (m_X0_isCarriedOut g r).2 (106 + r) (((m_X0_isCarriedOut g r).2 (106 + r)) + 1))
def m_X0_work_l : Nat → St → Nat → St
  | 0, g, _ => g
  | n + 1, g, r => if m_X2_goesWhereItIs g r = true then m_X0_work_l n (m_X0_finishFirst g r) r else g
def m_X0_work (g : St) (r r2 : Nat) : St := m_X0_work_t (m_X0_work_l 8 g r) r r2
set_option maxHeartbeats 4000000 in
set_option maxRecDepth 100000 in
theorem c_X0_work (l : Launch) (G : GG) (ad : Nat → Nat) (g : St) {r : Nat} (hr : r < 2) {r2 : Nat} (hr2 : r2 < 2) : Ct l G yX0_work cX0_work 4 (none : Option Jvm.ClassFile.FieldType) rm_X0_work [.ref (ad 12), .ref (ad (26 + r)), .ref (ad (26 + r2))] (aw G ad g) (fun rv W1 => rv = none ∧ W1 = aw G ad (m_X0_work g r r2)) := by
  refine Ct.mk2 (by decide) (Nat.le_of_ble_eq_true rfl) ?_
  intro p e s m args below meth c A H locs ls Q cx wo hl hQ
  obtain ⟨hx, hb, hml, hr, hlo, hown, hts, hnm, kn, hA⟩ := id cx
  have hl : lv_has ls 4 [(0, .ref (ad 12)), (1, .ref (ad (26 + r))), (2, .ref (ad (26 + r2)))] := hl
  generalize hM : m_X0_work g r r2 = M at hQ
  unfold m_X0_work at hM
  have htail : ∀ (g : St) (H : Heap) (locs : List Loc) (ls : Array Slot), Wo G A s.heap H locs (aw G ad g) → lv_has ls 4 [(0, .ref (ad 12)), (1, .ref (ad (26 + r))), (2, .ref (ad (26 + r2)))] → m_X0_work_t g r r2 = M → W p l e rm_X0_work s m args below meth c H locs 0 0 Q (F0 m 26 ls []) := by
    intro g H locs ls wo hl hM
    unfold m_X0_work_t at hM
    refine lv_aload_n hx hb dX0_work_26 rfl (lv_at hl 1 rfl) ?_
    refine gf_crane_orders (r := r) (fun X => X) Fr_id cx wo (by omega) m_110 dX0_work_27 ?_
    refine lv_if_ne (tgt := 34) hx hb dX0_work_30 (by decide) (fun c_1 => ?_) (fun c_1 => ?_)
    · skip
      rw [if_neg c_1] at hM
      refine lv_aload_n hx hb dX0_work_34 rfl (lv_at hl 1 rfl) ?_
      refine call_V (As := []) (rest := []) (fun X => X) Fr_id cx (c_X2_firstWhat l G ad _ (r := r) (by omega)) fx_X2_firstWhat m_417 m_405 m_406 ⟨by decide, by decide⟩ wo (at_crane G _ _ (r := r) (by omega)) rfl rfl rfl hl.1 rfl (Nat.le_of_ble_eq_true rfl) dX0_work_35 ⟨by decide, by decide⟩ (fun v W1 H locs hp wo => ?_)
      obtain ⟨rfl, rfl⟩ := hp
      refine nrm_i ?_
      refine lv_if_ne (tgt := 50) hx hb dX0_work_38 (by decide) (fun c_2 => ?_) (fun c_2 => ?_)
      · skip
        rw [if_neg c_2] at hM
        refine lv_aload_n hx hb dX0_work_50 rfl (lv_at hl 0 rfl) ?_
        refine lv_aload_n hx hb dX0_work_51 rfl (lv_at hl 1 rfl) ?_
        refine call_V (As := [.ref (ad (26 + r))]) (rest := []) (fun X => X) Fr_id cx (c_X0_isCarriedOut l G ad _ (r := r) (by omega)) fx_X0_isCarriedOut m_434 m_436 m_9 ⟨by decide, by decide⟩ wo (at_aisle G _ _ ) rfl rfl rfl hl.1 rfl (Nat.le_of_ble_eq_true rfl) dX0_work_52 ⟨by decide, by decide⟩ (fun v W1 H locs hp wo => ?_)
        obtain ⟨rfl, rfl⟩ := hp
        refine nrm_i ?_
        refine if_eq_b (tgt := 66) hx hb dX0_work_55 (by decide) (fun c_3 => ?_) (fun c_3 => ?_)
        · skip
          rw [if_neg c_3] at hM
          refine lv_aload_n hx hb dX0_work_66 rfl (lv_at hl 1 rfl) ?_
          refine lv_dup hx hb dX0_work_67 rfl ?_
          refine gf_crane_waits (r := r) (fun X => X) Fr_id cx wo (by omega) m_112 dX0_work_68 ?_
          refine lv_iconst (v := 1) hx hb dX0_work_71 (by decide) ?_
          refine lv_iadd hx hb dX0_work_72 ?_
          refine pf_crane_waits (r := r) (fun X => X) Fr_id cx wo (by omega) m_112 dX0_work_73 (fun H locs gz hgz wo => ?_)
          subst hgz
          exact r2_v cx hQ wo dX0_work_76 (by subst hM; exact ⟨rfl, rfl⟩)
        · skip
          rw [if_pos c_3] at hM
          refine lv_aload_n hx hb dX0_work_58 rfl (lv_at hl 0 rfl) ?_
          refine lv_aload_n hx hb dX0_work_59 rfl (lv_at hl 1 rfl) ?_
          refine call_V (As := [.ref (ad (26 + r))]) (rest := []) (fun X => X) Fr_id cx (c_X0_finishFirst l G ad _ (r := r) (by omega)) fx_X0_finishFirst m_408 m_410 m_7 ⟨by decide, by decide⟩ wo (at_aisle G _ _ ) rfl rfl rfl hl.1 rfl (Nat.le_of_ble_eq_true rfl) dX0_work_60 ⟨by decide, by decide⟩ (fun v W1 H locs hp wo => ?_)
          obtain ⟨rfl, rfl⟩ := hp
          refine nrm_v ?_
          refine lv_goto (tgt := 76) hx hb dX0_work_63 (by decide) ?_
          exact r2_v cx hQ wo dX0_work_76 (by subst hM; exact ⟨rfl, rfl⟩)
      · skip
        rw [if_pos c_2] at hM
        refine lv_aload_n hx hb dX0_work_41 rfl (lv_at hl 0 rfl) ?_
        refine lv_aload_n hx hb dX0_work_42 rfl (lv_at hl 1 rfl) ?_
        refine lv_aload_n hx hb dX0_work_43 rfl (lv_at hl 2 rfl) ?_
        refine call_V (As := [.ref (ad (26 + r)), .ref (ad (26 + r2))]) (rest := []) (fun X => X) Fr_id cx (c_X0_stepOrWait l G ad _ (r := r) (by omega) (r2 := r2) (by omega)) fx_X0_stepOrWait m_418 m_420 m_8 ⟨by decide, by decide⟩ wo (at_aisle G _ _ ) rfl rfl rfl hl.1 rfl (Nat.le_of_ble_eq_true rfl) dX0_work_44 ⟨by decide, by decide⟩ (fun v W1 H locs hp wo => ?_)
        obtain ⟨rfl, rfl⟩ := hp
        refine nrm_v ?_
        refine lv_goto (tgt := 76) hx hb dX0_work_47 (by decide) ?_
        exact r2_v cx hQ wo dX0_work_76 (by subst hM; exact ⟨rfl, rfl⟩)
    · skip
      rw [if_pos c_1] at hM
      exact r2_v cx hQ wo dX0_work_33 (by subst hM; exact ⟨rfl, rfl⟩)
  refine lv_iconst (v := 0) hx hb dX0_work_0 (by decide) ?_
  refine lv_istore_n (lv' := [(3, .int 0), (0, .ref (ad 12)), (1, .ref (ad (26 + r))), (2, .ref (ad (26 + r2)))]) hx hb dX0_work_1 rfl hl (by decide) rfl (fun ls hl => ?_)
  refine lv_iload_n hx hb dX0_work_2 rfl (lv_at hl 0 rfl) ?_
  refine lv_bipush (v := 8) hx hb dX0_work_3 (by decide) ?_
  refine lv_icmp_ge (tgt := 26) hx hb dX0_work_5 (by decide) (fun h => absurd h (by decide)) (fun _ => ?_)
  rw [show m_X0_work_l 8 g r = (if m_X2_goesWhereItIs g r = true then m_X0_work_l 7 (m_X0_finishFirst g r) r else g) from rfl] at hM
  refine lv_aload_n hx hb dX0_work_8 rfl (lv_at hl 2 rfl) ?_
  refine call_V (As := []) (rest := []) (fun X => X) Fr_id cx (c_X2_goesWhereItIs l G ad _ (r := r) (by omega)) fx_X2_goesWhereItIs m_400 m_401 m_402 ⟨by decide, by decide⟩ wo (at_crane G _ _ (r := r) (by omega)) rfl rfl rfl hl.1 rfl (Nat.le_of_ble_eq_true rfl) dX0_work_9 ⟨by decide, by decide⟩ (fun v W1 H locs hp wo => ?_)
  obtain ⟨rfl, rfl⟩ := hp
  refine nrm_i ?_
  refine if_eq_b (tgt := 26) hx hb dX0_work_12 (by decide) (fun c_501 => ?_) (fun c_501 => ?_)
  · skip
    rw [if_neg c_501] at hM
    exact htail _ _ _ _ wo (lv_sub hl [1, 2, 3] rfl) hM
  · skip
    rw [if_pos c_501] at hM
    refine lv_aload_n hx hb dX0_work_15 rfl (lv_at hl 1 rfl) ?_
    refine lv_aload_n hx hb dX0_work_16 rfl (lv_at hl 2 rfl) ?_
    refine call_V (As := [.ref (ad (26 + r))]) (rest := []) (fun X => X) Fr_id cx (c_X0_finishFirst l G ad _ (r := r) (by omega)) fx_X0_finishFirst m_408 m_410 m_7 ⟨by decide, by decide⟩ wo (at_aisle G _ _ ) rfl rfl rfl hl.1 rfl (Nat.le_of_ble_eq_true rfl) dX0_work_17 ⟨by decide, by decide⟩ (fun v W1 H locs hp wo => ?_)
    obtain ⟨rfl, rfl⟩ := hp
    refine nrm_v ?_
    refine lv_iinc (v := 1) (lv' := [(3, .int 1), (0, .ref (ad 12)), (1, .ref (ad (26 + r))), (2, .ref (ad (26 + r2)))]) hx hb dX0_work_20 hl (k := 0) rfl (by decide) (by decide) rfl (fun ls hl => ?_)
    refine lv_goto (tgt := 2) hx hb dX0_work_23 (by decide) ?_
    refine lv_iload_n hx hb dX0_work_2 rfl (lv_at hl 0 rfl) ?_
    refine lv_bipush (v := 8) hx hb dX0_work_3 (by decide) ?_
    refine lv_icmp_ge (tgt := 26) hx hb dX0_work_5 (by decide) (fun h => absurd h (by decide)) (fun _ => ?_)
    rw [show m_X0_work_l 7 (m_X0_finishFirst g r) r = (if m_X2_goesWhereItIs (m_X0_finishFirst g r) r = true then m_X0_work_l 6 (m_X0_finishFirst (m_X0_finishFirst g r) r) r else (m_X0_finishFirst g r)) from rfl] at hM
    refine lv_aload_n hx hb dX0_work_8 rfl (lv_at hl 2 rfl) ?_
    refine call_V (As := []) (rest := []) (fun X => X) Fr_id cx (c_X2_goesWhereItIs l G ad _ (r := r) (by omega)) fx_X2_goesWhereItIs m_400 m_401 m_402 ⟨by decide, by decide⟩ wo (at_crane G _ _ (r := r) (by omega)) rfl rfl rfl hl.1 rfl (Nat.le_of_ble_eq_true rfl) dX0_work_9 ⟨by decide, by decide⟩ (fun v W1 H locs hp wo => ?_)
    obtain ⟨rfl, rfl⟩ := hp
    refine nrm_i ?_
    refine if_eq_b (tgt := 26) hx hb dX0_work_12 (by decide) (fun c_502 => ?_) (fun c_502 => ?_)
    · skip
      rw [if_neg c_502] at hM
      exact htail _ _ _ _ wo (lv_sub hl [1, 2, 3] rfl) hM
    · skip
      rw [if_pos c_502] at hM
      refine lv_aload_n hx hb dX0_work_15 rfl (lv_at hl 1 rfl) ?_
      refine lv_aload_n hx hb dX0_work_16 rfl (lv_at hl 2 rfl) ?_
      refine call_V (As := [.ref (ad (26 + r))]) (rest := []) (fun X => X) Fr_id cx (c_X0_finishFirst l G ad _ (r := r) (by omega)) fx_X0_finishFirst m_408 m_410 m_7 ⟨by decide, by decide⟩ wo (at_aisle G _ _ ) rfl rfl rfl hl.1 rfl (Nat.le_of_ble_eq_true rfl) dX0_work_17 ⟨by decide, by decide⟩ (fun v W1 H locs hp wo => ?_)
      obtain ⟨rfl, rfl⟩ := hp
      refine nrm_v ?_
      refine lv_iinc (v := 2) (lv' := [(3, .int 2), (0, .ref (ad 12)), (1, .ref (ad (26 + r))), (2, .ref (ad (26 + r2)))]) hx hb dX0_work_20 hl (k := 0) rfl (by decide) (by decide) rfl (fun ls hl => ?_)
      refine lv_goto (tgt := 2) hx hb dX0_work_23 (by decide) ?_
      refine lv_iload_n hx hb dX0_work_2 rfl (lv_at hl 0 rfl) ?_
      refine lv_bipush (v := 8) hx hb dX0_work_3 (by decide) ?_
      refine lv_icmp_ge (tgt := 26) hx hb dX0_work_5 (by decide) (fun h => absurd h (by decide)) (fun _ => ?_)
      rw [show m_X0_work_l 6 (m_X0_finishFirst (m_X0_finishFirst g r) r) r = (if m_X2_goesWhereItIs (m_X0_finishFirst (m_X0_finishFirst g r) r) r = true then m_X0_work_l 5 (m_X0_finishFirst (m_X0_finishFirst (m_X0_finishFirst g r) r) r) r else (m_X0_finishFirst (m_X0_finishFirst g r) r)) from rfl] at hM
      refine lv_aload_n hx hb dX0_work_8 rfl (lv_at hl 2 rfl) ?_
      refine call_V (As := []) (rest := []) (fun X => X) Fr_id cx (c_X2_goesWhereItIs l G ad _ (r := r) (by omega)) fx_X2_goesWhereItIs m_400 m_401 m_402 ⟨by decide, by decide⟩ wo (at_crane G _ _ (r := r) (by omega)) rfl rfl rfl hl.1 rfl (Nat.le_of_ble_eq_true rfl) dX0_work_9 ⟨by decide, by decide⟩ (fun v W1 H locs hp wo => ?_)
      obtain ⟨rfl, rfl⟩ := hp
      refine nrm_i ?_
      refine if_eq_b (tgt := 26) hx hb dX0_work_12 (by decide) (fun c_503 => ?_) (fun c_503 => ?_)
      · skip
        rw [if_neg c_503] at hM
        exact htail _ _ _ _ wo (lv_sub hl [1, 2, 3] rfl) hM
      · skip
        rw [if_pos c_503] at hM
        refine lv_aload_n hx hb dX0_work_15 rfl (lv_at hl 1 rfl) ?_
        refine lv_aload_n hx hb dX0_work_16 rfl (lv_at hl 2 rfl) ?_
        refine call_V (As := [.ref (ad (26 + r))]) (rest := []) (fun X => X) Fr_id cx (c_X0_finishFirst l G ad _ (r := r) (by omega)) fx_X0_finishFirst m_408 m_410 m_7 ⟨by decide, by decide⟩ wo (at_aisle G _ _ ) rfl rfl rfl hl.1 rfl (Nat.le_of_ble_eq_true rfl) dX0_work_17 ⟨by decide, by decide⟩ (fun v W1 H locs hp wo => ?_)
        obtain ⟨rfl, rfl⟩ := hp
        refine nrm_v ?_
        refine lv_iinc (v := 3) (lv' := [(3, .int 3), (0, .ref (ad 12)), (1, .ref (ad (26 + r))), (2, .ref (ad (26 + r2)))]) hx hb dX0_work_20 hl (k := 0) rfl (by decide) (by decide) rfl (fun ls hl => ?_)
        refine lv_goto (tgt := 2) hx hb dX0_work_23 (by decide) ?_
        refine lv_iload_n hx hb dX0_work_2 rfl (lv_at hl 0 rfl) ?_
        refine lv_bipush (v := 8) hx hb dX0_work_3 (by decide) ?_
        refine lv_icmp_ge (tgt := 26) hx hb dX0_work_5 (by decide) (fun h => absurd h (by decide)) (fun _ => ?_)
        rw [show m_X0_work_l 5 (m_X0_finishFirst (m_X0_finishFirst (m_X0_finishFirst g r) r) r) r = (if m_X2_goesWhereItIs (m_X0_finishFirst (m_X0_finishFirst (m_X0_finishFirst g r) r) r) r = true then m_X0_work_l 4 (m_X0_finishFirst (m_X0_finishFirst (m_X0_finishFirst (m_X0_finishFirst g r) r) r) r) r else (m_X0_finishFirst (m_X0_finishFirst (m_X0_finishFirst g r) r) r)) from rfl] at hM
        refine lv_aload_n hx hb dX0_work_8 rfl (lv_at hl 2 rfl) ?_
        refine call_V (As := []) (rest := []) (fun X => X) Fr_id cx (c_X2_goesWhereItIs l G ad _ (r := r) (by omega)) fx_X2_goesWhereItIs m_400 m_401 m_402 ⟨by decide, by decide⟩ wo (at_crane G _ _ (r := r) (by omega)) rfl rfl rfl hl.1 rfl (Nat.le_of_ble_eq_true rfl) dX0_work_9 ⟨by decide, by decide⟩ (fun v W1 H locs hp wo => ?_)
        obtain ⟨rfl, rfl⟩ := hp
        refine nrm_i ?_
        refine if_eq_b (tgt := 26) hx hb dX0_work_12 (by decide) (fun c_504 => ?_) (fun c_504 => ?_)
        · skip
          rw [if_neg c_504] at hM
          exact htail _ _ _ _ wo (lv_sub hl [1, 2, 3] rfl) hM
        · skip
          rw [if_pos c_504] at hM
          refine lv_aload_n hx hb dX0_work_15 rfl (lv_at hl 1 rfl) ?_
          refine lv_aload_n hx hb dX0_work_16 rfl (lv_at hl 2 rfl) ?_
          refine call_V (As := [.ref (ad (26 + r))]) (rest := []) (fun X => X) Fr_id cx (c_X0_finishFirst l G ad _ (r := r) (by omega)) fx_X0_finishFirst m_408 m_410 m_7 ⟨by decide, by decide⟩ wo (at_aisle G _ _ ) rfl rfl rfl hl.1 rfl (Nat.le_of_ble_eq_true rfl) dX0_work_17 ⟨by decide, by decide⟩ (fun v W1 H locs hp wo => ?_)
          obtain ⟨rfl, rfl⟩ := hp
          refine nrm_v ?_
          refine lv_iinc (v := 4) (lv' := [(3, .int 4), (0, .ref (ad 12)), (1, .ref (ad (26 + r))), (2, .ref (ad (26 + r2)))]) hx hb dX0_work_20 hl (k := 0) rfl (by decide) (by decide) rfl (fun ls hl => ?_)
          refine lv_goto (tgt := 2) hx hb dX0_work_23 (by decide) ?_
          refine lv_iload_n hx hb dX0_work_2 rfl (lv_at hl 0 rfl) ?_
          refine lv_bipush (v := 8) hx hb dX0_work_3 (by decide) ?_
          refine lv_icmp_ge (tgt := 26) hx hb dX0_work_5 (by decide) (fun h => absurd h (by decide)) (fun _ => ?_)
          rw [show m_X0_work_l 4 (m_X0_finishFirst (m_X0_finishFirst (m_X0_finishFirst (m_X0_finishFirst g r) r) r) r) r = (if m_X2_goesWhereItIs (m_X0_finishFirst (m_X0_finishFirst (m_X0_finishFirst (m_X0_finishFirst g r) r) r) r) r = true then m_X0_work_l 3 (m_X0_finishFirst (m_X0_finishFirst (m_X0_finishFirst (m_X0_finishFirst (m_X0_finishFirst g r) r) r) r) r) r else (m_X0_finishFirst (m_X0_finishFirst (m_X0_finishFirst (m_X0_finishFirst g r) r) r) r)) from rfl] at hM
          refine lv_aload_n hx hb dX0_work_8 rfl (lv_at hl 2 rfl) ?_
          refine call_V (As := []) (rest := []) (fun X => X) Fr_id cx (c_X2_goesWhereItIs l G ad _ (r := r) (by omega)) fx_X2_goesWhereItIs m_400 m_401 m_402 ⟨by decide, by decide⟩ wo (at_crane G _ _ (r := r) (by omega)) rfl rfl rfl hl.1 rfl (Nat.le_of_ble_eq_true rfl) dX0_work_9 ⟨by decide, by decide⟩ (fun v W1 H locs hp wo => ?_)
          obtain ⟨rfl, rfl⟩ := hp
          refine nrm_i ?_
          refine if_eq_b (tgt := 26) hx hb dX0_work_12 (by decide) (fun c_505 => ?_) (fun c_505 => ?_)
          · skip
            rw [if_neg c_505] at hM
            exact htail _ _ _ _ wo (lv_sub hl [1, 2, 3] rfl) hM
          · skip
            rw [if_pos c_505] at hM
            refine lv_aload_n hx hb dX0_work_15 rfl (lv_at hl 1 rfl) ?_
            refine lv_aload_n hx hb dX0_work_16 rfl (lv_at hl 2 rfl) ?_
            refine call_V (As := [.ref (ad (26 + r))]) (rest := []) (fun X => X) Fr_id cx (c_X0_finishFirst l G ad _ (r := r) (by omega)) fx_X0_finishFirst m_408 m_410 m_7 ⟨by decide, by decide⟩ wo (at_aisle G _ _ ) rfl rfl rfl hl.1 rfl (Nat.le_of_ble_eq_true rfl) dX0_work_17 ⟨by decide, by decide⟩ (fun v W1 H locs hp wo => ?_)
            obtain ⟨rfl, rfl⟩ := hp
            refine nrm_v ?_
            refine lv_iinc (v := 5) (lv' := [(3, .int 5), (0, .ref (ad 12)), (1, .ref (ad (26 + r))), (2, .ref (ad (26 + r2)))]) hx hb dX0_work_20 hl (k := 0) rfl (by decide) (by decide) rfl (fun ls hl => ?_)
            refine lv_goto (tgt := 2) hx hb dX0_work_23 (by decide) ?_
            refine lv_iload_n hx hb dX0_work_2 rfl (lv_at hl 0 rfl) ?_
            refine lv_bipush (v := 8) hx hb dX0_work_3 (by decide) ?_
            refine lv_icmp_ge (tgt := 26) hx hb dX0_work_5 (by decide) (fun h => absurd h (by decide)) (fun _ => ?_)
            rw [show m_X0_work_l 3 (m_X0_finishFirst (m_X0_finishFirst (m_X0_finishFirst (m_X0_finishFirst (m_X0_finishFirst g r) r) r) r) r) r = (if m_X2_goesWhereItIs (m_X0_finishFirst (m_X0_finishFirst (m_X0_finishFirst (m_X0_finishFirst (m_X0_finishFirst g r) r) r) r) r) r = true then m_X0_work_l 2 (m_X0_finishFirst (m_X0_finishFirst (m_X0_finishFirst (m_X0_finishFirst (m_X0_finishFirst (m_X0_finishFirst g r) r) r) r) r) r) r else (m_X0_finishFirst (m_X0_finishFirst (m_X0_finishFirst (m_X0_finishFirst (m_X0_finishFirst g r) r) r) r) r)) from rfl] at hM
            refine lv_aload_n hx hb dX0_work_8 rfl (lv_at hl 2 rfl) ?_
            refine call_V (As := []) (rest := []) (fun X => X) Fr_id cx (c_X2_goesWhereItIs l G ad _ (r := r) (by omega)) fx_X2_goesWhereItIs m_400 m_401 m_402 ⟨by decide, by decide⟩ wo (at_crane G _ _ (r := r) (by omega)) rfl rfl rfl hl.1 rfl (Nat.le_of_ble_eq_true rfl) dX0_work_9 ⟨by decide, by decide⟩ (fun v W1 H locs hp wo => ?_)
            obtain ⟨rfl, rfl⟩ := hp
            refine nrm_i ?_
            refine if_eq_b (tgt := 26) hx hb dX0_work_12 (by decide) (fun c_506 => ?_) (fun c_506 => ?_)
            · skip
              rw [if_neg c_506] at hM
              exact htail _ _ _ _ wo (lv_sub hl [1, 2, 3] rfl) hM
            · skip
              rw [if_pos c_506] at hM
              refine lv_aload_n hx hb dX0_work_15 rfl (lv_at hl 1 rfl) ?_
              refine lv_aload_n hx hb dX0_work_16 rfl (lv_at hl 2 rfl) ?_
              refine call_V (As := [.ref (ad (26 + r))]) (rest := []) (fun X => X) Fr_id cx (c_X0_finishFirst l G ad _ (r := r) (by omega)) fx_X0_finishFirst m_408 m_410 m_7 ⟨by decide, by decide⟩ wo (at_aisle G _ _ ) rfl rfl rfl hl.1 rfl (Nat.le_of_ble_eq_true rfl) dX0_work_17 ⟨by decide, by decide⟩ (fun v W1 H locs hp wo => ?_)
              obtain ⟨rfl, rfl⟩ := hp
              refine nrm_v ?_
              refine lv_iinc (v := 6) (lv' := [(3, .int 6), (0, .ref (ad 12)), (1, .ref (ad (26 + r))), (2, .ref (ad (26 + r2)))]) hx hb dX0_work_20 hl (k := 0) rfl (by decide) (by decide) rfl (fun ls hl => ?_)
              refine lv_goto (tgt := 2) hx hb dX0_work_23 (by decide) ?_
              refine lv_iload_n hx hb dX0_work_2 rfl (lv_at hl 0 rfl) ?_
              refine lv_bipush (v := 8) hx hb dX0_work_3 (by decide) ?_
              refine lv_icmp_ge (tgt := 26) hx hb dX0_work_5 (by decide) (fun h => absurd h (by decide)) (fun _ => ?_)
              rw [show m_X0_work_l 2 (m_X0_finishFirst (m_X0_finishFirst (m_X0_finishFirst (m_X0_finishFirst (m_X0_finishFirst (m_X0_finishFirst g r) r) r) r) r) r) r = (if m_X2_goesWhereItIs (m_X0_finishFirst (m_X0_finishFirst (m_X0_finishFirst (m_X0_finishFirst (m_X0_finishFirst (m_X0_finishFirst g r) r) r) r) r) r) r = true then m_X0_work_l 1 (m_X0_finishFirst (m_X0_finishFirst (m_X0_finishFirst (m_X0_finishFirst (m_X0_finishFirst (m_X0_finishFirst (m_X0_finishFirst g r) r) r) r) r) r) r) r else (m_X0_finishFirst (m_X0_finishFirst (m_X0_finishFirst (m_X0_finishFirst (m_X0_finishFirst (m_X0_finishFirst g r) r) r) r) r) r)) from rfl] at hM
              refine lv_aload_n hx hb dX0_work_8 rfl (lv_at hl 2 rfl) ?_
              refine call_V (As := []) (rest := []) (fun X => X) Fr_id cx (c_X2_goesWhereItIs l G ad _ (r := r) (by omega)) fx_X2_goesWhereItIs m_400 m_401 m_402 ⟨by decide, by decide⟩ wo (at_crane G _ _ (r := r) (by omega)) rfl rfl rfl hl.1 rfl (Nat.le_of_ble_eq_true rfl) dX0_work_9 ⟨by decide, by decide⟩ (fun v W1 H locs hp wo => ?_)
              obtain ⟨rfl, rfl⟩ := hp
              refine nrm_i ?_
              refine if_eq_b (tgt := 26) hx hb dX0_work_12 (by decide) (fun c_507 => ?_) (fun c_507 => ?_)
              · skip
                rw [if_neg c_507] at hM
                exact htail _ _ _ _ wo (lv_sub hl [1, 2, 3] rfl) hM
              · skip
                rw [if_pos c_507] at hM
                refine lv_aload_n hx hb dX0_work_15 rfl (lv_at hl 1 rfl) ?_
                refine lv_aload_n hx hb dX0_work_16 rfl (lv_at hl 2 rfl) ?_
                refine call_V (As := [.ref (ad (26 + r))]) (rest := []) (fun X => X) Fr_id cx (c_X0_finishFirst l G ad _ (r := r) (by omega)) fx_X0_finishFirst m_408 m_410 m_7 ⟨by decide, by decide⟩ wo (at_aisle G _ _ ) rfl rfl rfl hl.1 rfl (Nat.le_of_ble_eq_true rfl) dX0_work_17 ⟨by decide, by decide⟩ (fun v W1 H locs hp wo => ?_)
                obtain ⟨rfl, rfl⟩ := hp
                refine nrm_v ?_
                refine lv_iinc (v := 7) (lv' := [(3, .int 7), (0, .ref (ad 12)), (1, .ref (ad (26 + r))), (2, .ref (ad (26 + r2)))]) hx hb dX0_work_20 hl (k := 0) rfl (by decide) (by decide) rfl (fun ls hl => ?_)
                refine lv_goto (tgt := 2) hx hb dX0_work_23 (by decide) ?_
                refine lv_iload_n hx hb dX0_work_2 rfl (lv_at hl 0 rfl) ?_
                refine lv_bipush (v := 8) hx hb dX0_work_3 (by decide) ?_
                refine lv_icmp_ge (tgt := 26) hx hb dX0_work_5 (by decide) (fun h => absurd h (by decide)) (fun _ => ?_)
                rw [show m_X0_work_l 1 (m_X0_finishFirst (m_X0_finishFirst (m_X0_finishFirst (m_X0_finishFirst (m_X0_finishFirst (m_X0_finishFirst (m_X0_finishFirst g r) r) r) r) r) r) r) r = (if m_X2_goesWhereItIs (m_X0_finishFirst (m_X0_finishFirst (m_X0_finishFirst (m_X0_finishFirst (m_X0_finishFirst (m_X0_finishFirst (m_X0_finishFirst g r) r) r) r) r) r) r) r = true then m_X0_work_l 0 (m_X0_finishFirst (m_X0_finishFirst (m_X0_finishFirst (m_X0_finishFirst (m_X0_finishFirst (m_X0_finishFirst (m_X0_finishFirst (m_X0_finishFirst g r) r) r) r) r) r) r) r) r else (m_X0_finishFirst (m_X0_finishFirst (m_X0_finishFirst (m_X0_finishFirst (m_X0_finishFirst (m_X0_finishFirst (m_X0_finishFirst g r) r) r) r) r) r) r)) from rfl] at hM
                refine lv_aload_n hx hb dX0_work_8 rfl (lv_at hl 2 rfl) ?_
                refine call_V (As := []) (rest := []) (fun X => X) Fr_id cx (c_X2_goesWhereItIs l G ad _ (r := r) (by omega)) fx_X2_goesWhereItIs m_400 m_401 m_402 ⟨by decide, by decide⟩ wo (at_crane G _ _ (r := r) (by omega)) rfl rfl rfl hl.1 rfl (Nat.le_of_ble_eq_true rfl) dX0_work_9 ⟨by decide, by decide⟩ (fun v W1 H locs hp wo => ?_)
                obtain ⟨rfl, rfl⟩ := hp
                refine nrm_i ?_
                refine if_eq_b (tgt := 26) hx hb dX0_work_12 (by decide) (fun c_508 => ?_) (fun c_508 => ?_)
                · skip
                  rw [if_neg c_508] at hM
                  exact htail _ _ _ _ wo (lv_sub hl [1, 2, 3] rfl) hM
                · skip
                  rw [if_pos c_508] at hM
                  refine lv_aload_n hx hb dX0_work_15 rfl (lv_at hl 1 rfl) ?_
                  refine lv_aload_n hx hb dX0_work_16 rfl (lv_at hl 2 rfl) ?_
                  refine call_V (As := [.ref (ad (26 + r))]) (rest := []) (fun X => X) Fr_id cx (c_X0_finishFirst l G ad _ (r := r) (by omega)) fx_X0_finishFirst m_408 m_410 m_7 ⟨by decide, by decide⟩ wo (at_aisle G _ _ ) rfl rfl rfl hl.1 rfl (Nat.le_of_ble_eq_true rfl) dX0_work_17 ⟨by decide, by decide⟩ (fun v W1 H locs hp wo => ?_)
                  obtain ⟨rfl, rfl⟩ := hp
                  refine nrm_v ?_
                  refine lv_iinc (v := 8) (lv' := [(3, .int 8), (0, .ref (ad 12)), (1, .ref (ad (26 + r))), (2, .ref (ad (26 + r2)))]) hx hb dX0_work_20 hl (k := 0) rfl (by decide) (by decide) rfl (fun ls hl => ?_)
                  refine lv_goto (tgt := 2) hx hb dX0_work_23 (by decide) ?_
                  refine lv_iload_n hx hb dX0_work_2 rfl (lv_at hl 0 rfl) ?_
                  refine lv_bipush (v := 8) hx hb dX0_work_3 (by decide) ?_
                  refine lv_icmp_ge (tgt := 26) hx hb dX0_work_5 (by decide) (fun _ => ?_) (fun h => absurd (show ¬ _ from h) (by decide))
                  rw [show m_X0_work_l 0 (m_X0_finishFirst (m_X0_finishFirst (m_X0_finishFirst (m_X0_finishFirst (m_X0_finishFirst (m_X0_finishFirst (m_X0_finishFirst (m_X0_finishFirst g r) r) r) r) r) r) r) r) r = (m_X0_finishFirst (m_X0_finishFirst (m_X0_finishFirst (m_X0_finishFirst (m_X0_finishFirst (m_X0_finishFirst (m_X0_finishFirst (m_X0_finishFirst g r) r) r) r) r) r) r) r) from rfl] at hM
                  exact htail _ _ _ _ wo (lv_sub hl [1, 2, 3] rfl) hM
abbrev rm_X0_passMinute : Room := { frames := 5, cells := 0, slots := 0, locals := 118 }
def m_X0_passMinute (g : St) : St :=
  (m_X0_work (m_X0_work (m_X0_castAnode (m_X0_blowVessels (m_X0_feedFurnace (upd g 140 ((g 140) + 1))))) 0 1) 1 0)
set_option maxHeartbeats 4000000 in
set_option maxRecDepth 100000 in
theorem c_X0_passMinute (l : Launch) (G : GG) (ad : Nat → Nat) (g : St)  : Ct l G yX0_passMinute cX0_passMinute 1 (none : Option Jvm.ClassFile.FieldType) rm_X0_passMinute [.ref (ad 12)] (aw G ad g) (fun rv W1 => rv = none ∧ W1 = aw G ad (m_X0_passMinute g)) := by
  refine Ct.mk2 (by decide) (Nat.le_of_ble_eq_true rfl) ?_
  intro p e s m args below meth c A H locs ls Q cx wo hl hQ
  obtain ⟨hx, hb, hml, hr, hlo, hown, hts, hnm, kn, hA⟩ := id cx
  have hl : lv_has ls 1 [(0, .ref (ad 12))] := hl
  generalize hM : m_X0_passMinute g = M at hQ
  unfold m_X0_passMinute at hM
  refine lv_aload_n hx hb dX0_passMinute_0 rfl (lv_at hl 0 rfl) ?_
  refine gf_aisle_books (fun X => X) Fr_id cx wo  m_255 dX0_passMinute_1 ?_
  refine lv_dup hx hb dX0_passMinute_4 rfl ?_
  refine gf_books_minutesPassed (fun X => X) Fr_id cx wo  m_149 dX0_passMinute_5 ?_
  refine lv_iconst (v := 1) hx hb dX0_passMinute_8 (by decide) ?_
  refine lv_iadd hx hb dX0_passMinute_9 ?_
  refine pf_books_minutesPassed (fun X => X) Fr_id cx wo  m_149 dX0_passMinute_10 (fun H locs gz hgz wo => ?_)
  subst hgz
  refine lv_aload_n hx hb dX0_passMinute_13 rfl (lv_at hl 0 rfl) ?_
  refine call_V (As := []) (rest := []) (fun X => X) Fr_id cx (c_X0_feedFurnace l G ad _) fx_X0_feedFurnace m_352 m_354 m_0 ⟨by decide, by decide⟩ wo (at_aisle G _ _ ) rfl rfl rfl hl.1 rfl (Nat.le_of_ble_eq_true rfl) dX0_passMinute_14 ⟨by decide, by decide⟩ (fun v W1 H locs hp wo => ?_)
  obtain ⟨rfl, rfl⟩ := hp
  refine nrm_v ?_
  refine lv_aload_n hx hb dX0_passMinute_17 rfl (lv_at hl 0 rfl) ?_
  refine call_V (As := []) (rest := []) (fun X => X) Fr_id cx (c_X0_blowVessels l G ad _) fx_X0_blowVessels m_365 m_367 m_2 ⟨by decide, by decide⟩ wo (at_aisle G _ _ ) rfl rfl rfl hl.1 rfl (Nat.le_of_ble_eq_true rfl) dX0_passMinute_18 ⟨by decide, by decide⟩ (fun v W1 H locs hp wo => ?_)
  obtain ⟨rfl, rfl⟩ := hp
  refine nrm_v ?_
  refine lv_aload_n hx hb dX0_passMinute_21 rfl (lv_at hl 0 rfl) ?_
  refine call_V (As := []) (rest := []) (fun X => X) Fr_id cx (c_X0_castAnode l G ad _) fx_X0_castAnode m_392 m_394 m_5 ⟨by decide, by decide⟩ wo (at_aisle G _ _ ) rfl rfl rfl hl.1 rfl (Nat.le_of_ble_eq_true rfl) dX0_passMinute_22 ⟨by decide, by decide⟩ (fun v W1 H locs hp wo => ?_)
  obtain ⟨rfl, rfl⟩ := hp
  refine nrm_v ?_
  refine lv_aload_n hx hb dX0_passMinute_25 rfl (lv_at hl 0 rfl) ?_
  refine lv_aload_n hx hb dX0_passMinute_26 rfl (lv_at hl 0 rfl) ?_
  refine gf_aisle_left (fun X => X) Fr_id cx wo  m_253 dX0_passMinute_27 ?_
  refine lv_aload_n hx hb dX0_passMinute_30 rfl (lv_at hl 0 rfl) ?_
  refine gf_aisle_right (fun X => X) Fr_id cx wo  m_254 dX0_passMinute_31 ?_
  refine call_V (As := [.ref (ad (26 + 0)), .ref (ad (26 + 1))]) (rest := []) (fun X => X) Fr_id cx (c_X0_work l G ad _ (r := 0) (by omega) (r2 := 1) (by omega)) fx_X0_work m_396 m_398 m_6 ⟨by decide, by decide⟩ wo (at_aisle G _ _ ) rfl rfl rfl hl.1 rfl (Nat.le_of_ble_eq_true rfl) dX0_passMinute_34 ⟨by decide, by decide⟩ (fun v W1 H locs hp wo => ?_)
  obtain ⟨rfl, rfl⟩ := hp
  refine nrm_v ?_
  refine lv_aload_n hx hb dX0_passMinute_37 rfl (lv_at hl 0 rfl) ?_
  refine lv_aload_n hx hb dX0_passMinute_38 rfl (lv_at hl 0 rfl) ?_
  refine gf_aisle_right (fun X => X) Fr_id cx wo  m_254 dX0_passMinute_39 ?_
  refine lv_aload_n hx hb dX0_passMinute_42 rfl (lv_at hl 0 rfl) ?_
  refine gf_aisle_left (fun X => X) Fr_id cx wo  m_253 dX0_passMinute_43 ?_
  refine call_V (As := [.ref (ad (26 + 1)), .ref (ad (26 + 0))]) (rest := []) (fun X => X) Fr_id cx (c_X0_work l G ad _ (r := 1) (by omega) (r2 := 0) (by omega)) fx_X0_work m_396 m_398 m_6 ⟨by decide, by decide⟩ wo (at_aisle G _ _ ) rfl rfl rfl hl.1 rfl (Nat.le_of_ble_eq_true rfl) dX0_passMinute_46 ⟨by decide, by decide⟩ (fun v W1 H locs hp wo => ?_)
  obtain ⟨rfl, rfl⟩ := hp
  refine nrm_v ?_
  exact r2_v cx hQ wo dX0_passMinute_49 (by subst hM; exact ⟨rfl, rfl⟩)
